/-! THE FACE: ripples, draws, forces, steps -/
section
variable {g : hf_G} {I I2 : hf_I} {J J2 : hf_J} {S a b c k m n s p q P : Nat} {u v w : Int64} {i j x y kx ky am ph pw : Int32}
def rpJ (J : hf_J) (c s : Nat) (kx ky am ph : Int64) : hf_J := rwm4 J 4 6 8 10 c (fun k => plc (J 4 k + rpL s kx ky am ph k * kx / 64)) (fun k => plc (J 6 k + rpL s kx ky am ph k * ky / 64)) (fun k => J 8 k + rpL s kx ky am ph k * kx / 64) (fun k => J 10 k + rpL s kx ky am ph k * ky / 64)
def Wv (g : hf_G) (I : hf_I) : Prop := hf_k g 1000002 = (6, 16) ∧ I 1000002 = hf_wave
def rpOK (kx ky am ph : Int32) : Prop := (-3 ≤ kx ∧ kx ≤ 3) ∧ (-3 ≤ ky ∧ ky ≤ 3) ∧ (-1000 ≤ am ∧ am ≤ 1000) ∧ (0 ≤ ph ∧ ph ≤ 15) ∧ ¬ (kx = 0 ∧ ky = 0)
theorem c_rippleF (h : Hx g) (he : hf_n g < 1000000) (hW : Wv g I) (hc : I 2 5 = nI c) (hc2 : c ≤ 64) (hs : I 2 4 = nI s) (ho : rpOK kx ky am ph) (ha : I 0 6 = 1) : hf_rn 110 0 [some (.ref 0), some (.int kx), some (.int ky), some (.int am), some (.int ph)] [] g I J = some (.inl none, g, I, rpJ J c s kx.toInt64 ky.toInt64 am.toInt64 ph.toInt64) := by
  obtain ⟨h1, h2, h3, h4, h5⟩ := ho
  have hS : Sc g 1 := hx_sc1 h
  have hG : Gr g 2 := sc_gr1 hS
  have f : hf_r g 1 0 = some 2 := sc_r0 hS
  have hr : ∀ u v w q : Int64, hf_rn 22 0 [some (.ref 2), some (.long u), none, some (.long v), none, some (.long w), none, some (.long q), none, none, none, none, none, none] [] g I J = some (.inl none, g, I, rpJ J c s u v w q) := fun u v w q => c_ripple hG hc hc2 hs hW.1 hW.2
  have hna := c_needAge (I := I) (J := J) h
  rw [if_pos ha] at hna
  by_cases c1 : kx = 0
  · have c2 : ¬ ky = 0 := fun c => h5 ⟨c1, c⟩
    subst c1
    simp only [s110_0, s110_1, s110_3, s110_4, s110_7, s110_8, s110_10, s110_11, s110_14, s110_15, s110_18, s110_21, s110_24, s110_26, s110_27, s110_29, s110_32, s110_33, s110_36, s110_37, s110_40, s110_50, s110_51, s110_54, s110_55, s110_58, s110_61, s110_62, s110_63, s110_64, s110_65, s110_66, s110_67, s110_69, s110_70, s110_73, hf_bd_v, hf_bd_n, hf_iv_i, hf_iv_l, hf_iv_a, hf_iv_n, hf_iv_2, z_lgl, z_lgg, z_lge, z_lgle, z_lgz, Option.getD_some, Option.isSome_some, ↓reduceIte, not_true_eq_false, not_false_eq_true, Option.toList_some, Option.toList_none, List.cons_append, List.nil_append, Nat.reduceAdd, Nat.add_assoc, ku_ne, ku_same, ne_eq, Nat.reduceEqDiff, reduceCtorEq, Nat.add_eq_left, Nat.left_eq_add, Nat.reduceEqDiff, q10, q_ne, true_or, or_true, hx_k h, hx_r0 h, hx_r1 h, hx_r2 h, hx_r3 h, hx_r4 h, hx_r5 h, h.1, hS.1, hG.1, f, c_needRange he, if_pos h1, if_pos h2, if_pos h3, if_pos h4, c2, hna, hr]
  · simp only [s110_0, s110_1, s110_3, s110_4, s110_7, s110_8, s110_10, s110_11, s110_14, s110_15, s110_18, s110_21, s110_24, s110_26, s110_27, s110_29, s110_32, s110_33, s110_36, s110_37, s110_40, s110_50, s110_51, s110_54, s110_55, s110_58, s110_61, s110_62, s110_63, s110_64, s110_65, s110_66, s110_67, s110_69, s110_70, s110_73, hf_bd_v, hf_bd_n, hf_iv_i, hf_iv_l, hf_iv_a, hf_iv_n, hf_iv_2, z_lgl, z_lgg, z_lge, z_lgle, z_lgz, Option.getD_some, Option.isSome_some, ↓reduceIte, not_true_eq_false, not_false_eq_true, Option.toList_some, Option.toList_none, List.cons_append, List.nil_append, Nat.reduceAdd, Nat.add_assoc, ku_ne, ku_same, ne_eq, Nat.reduceEqDiff, reduceCtorEq, Nat.add_eq_left, Nat.left_eq_add, Nat.reduceEqDiff, q10, q_ne, true_or, or_true, hx_k h, hx_r0 h, hx_r1 h, hx_r2 h, hx_r3 h, hx_r4 h, hx_r5 h, h.1, hS.1, hG.1, f, c_needRange he, if_pos h1, if_pos h2, if_pos h3, if_pos h4, c1, hna, hr]
theorem c_rippleX2 (h : Hx g) (he : hf_n g < 1000000) (ho : rpOK kx ky am ph) (ha : ¬ I 0 6 = 1) : hf_rn 110 0 [some (.ref 0), some (.int kx), some (.int ky), some (.int am), some (.int ph)] [] g I J = some (.inr 2, hf_th g, I, J) := by
  obtain ⟨h1, h2, h3, h4, h5⟩ := ho
  have hna := c_needAge (I := I) (J := J) h
  rw [if_neg ha] at hna
  by_cases c1 : kx = 0
  · have c2 : ¬ ky = 0 := fun c => h5 ⟨c1, c⟩
    subst c1
    simp only [s110_0, s110_1, s110_3, s110_4, s110_7, s110_8, s110_10, s110_11, s110_14, s110_15, s110_18, s110_21, s110_24, s110_26, s110_27, s110_29, s110_32, s110_33, s110_36, s110_37, s110_40, s110_50, s110_51, s110_54, s110_55, s110_58, s110_61, s110_62, s110_63, s110_64, s110_65, s110_66, s110_67, s110_69, s110_70, s110_73, hf_bd_v, hf_bd_n, hf_iv_i, hf_iv_l, hf_iv_a, hf_iv_n, hf_iv_2, z_lgl, z_lgg, z_lge, z_lgle, z_lgz, Option.getD_some, Option.isSome_some, ↓reduceIte, not_true_eq_false, not_false_eq_true, Option.toList_some, Option.toList_none, List.cons_append, List.nil_append, Nat.reduceAdd, Nat.add_assoc, ku_ne, ku_same, ne_eq, Nat.reduceEqDiff, reduceCtorEq, Nat.add_eq_left, Nat.left_eq_add, Nat.reduceEqDiff, q10, q_ne, true_or, or_true, hx_k h, hx_r0 h, hx_r1 h, hx_r2 h, hx_r3 h, hx_r4 h, hx_r5 h, h.1, c_needRange he, if_pos h1, if_pos h2, if_pos h3, if_pos h4, c2, hna, hf_bdx hh_110]
  · simp only [s110_0, s110_1, s110_3, s110_4, s110_7, s110_8, s110_10, s110_11, s110_14, s110_15, s110_18, s110_21, s110_24, s110_26, s110_27, s110_29, s110_32, s110_33, s110_36, s110_37, s110_40, s110_50, s110_51, s110_54, s110_55, s110_58, s110_61, s110_62, s110_63, s110_64, s110_65, s110_66, s110_67, s110_69, s110_70, s110_73, hf_bd_v, hf_bd_n, hf_iv_i, hf_iv_l, hf_iv_a, hf_iv_n, hf_iv_2, z_lgl, z_lgg, z_lge, z_lgle, z_lgz, Option.getD_some, Option.isSome_some, ↓reduceIte, not_true_eq_false, not_false_eq_true, Option.toList_some, Option.toList_none, List.cons_append, List.nil_append, Nat.reduceAdd, Nat.add_assoc, ku_ne, ku_same, ne_eq, Nat.reduceEqDiff, reduceCtorEq, Nat.add_eq_left, Nat.left_eq_add, Nat.reduceEqDiff, q10, q_ne, true_or, or_true, hx_k h, hx_r0 h, hx_r1 h, hx_r2 h, hx_r3 h, hx_r4 h, hx_r5 h, h.1, c_needRange he, if_pos h1, if_pos h2, if_pos h3, if_pos h4, c1, hna, hf_bdx hh_110]
theorem c_rippleX1 (h : Hx g) (he : hf_n g < 1000000) (ho : ¬ rpOK kx ky am ph) : hf_rn 110 0 [some (.ref 0), some (.int kx), some (.int ky), some (.int am), some (.int ph)] [] g I J = some (.inr 1, hf_th g, I, J) := by
  by_cases h1 : -3 ≤ kx ∧ kx ≤ 3
  · by_cases h2 : -3 ≤ ky ∧ ky ≤ 3
    · by_cases h3 : -1000 ≤ am ∧ am ≤ 1000
      · by_cases h4 : 0 ≤ ph ∧ ph ≤ 15
        · have h5 : kx = 0 ∧ ky = 0 := by
            apply Classical.byContradiction
            intro c
            exact ho ⟨h1, h2, h3, h4, c⟩
          obtain ⟨rfl, rfl⟩ := h5
          simp only [s110_0, s110_1, s110_3, s110_4, s110_7, s110_8, s110_10, s110_11, s110_14, s110_15, s110_18, s110_21, s110_24, s110_26, s110_27, s110_29, s110_32, s110_33, s110_36, s110_37, s110_40, s110_50, s110_51, s110_54, s110_55, s110_58, s110_61, s110_62, s110_63, s110_64, s110_65, s110_66, s110_67, s110_69, s110_70, s110_73, hf_bd_v, hf_bd_n, hf_iv_i, hf_iv_l, hf_iv_a, hf_iv_n, hf_iv_2, z_lgl, z_lgg, z_lge, z_lgle, z_lgz, Option.getD_some, Option.isSome_some, ↓reduceIte, not_true_eq_false, not_false_eq_true, Option.toList_some, Option.toList_none, List.cons_append, List.nil_append, Nat.reduceAdd, Nat.add_assoc, ku_ne, ku_same, ne_eq, Nat.reduceEqDiff, reduceCtorEq, Nat.add_eq_left, Nat.left_eq_add, Nat.reduceEqDiff, q10, q_ne, true_or, or_true, hx_k h, hx_r0 h, hx_r1 h, hx_r2 h, hx_r3 h, hx_r4 h, hx_r5 h, h.1, c_needRange he, if_pos h1, if_pos h2, if_pos h3, if_pos h4]
        · simp only [s110_0, s110_1, s110_3, s110_4, s110_7, s110_8, s110_10, s110_11, s110_14, s110_15, s110_18, s110_21, s110_24, s110_26, s110_27, s110_29, s110_32, s110_33, s110_36, s110_37, s110_40, s110_50, s110_51, s110_54, s110_55, s110_58, s110_61, s110_62, s110_63, s110_64, s110_65, s110_66, s110_67, s110_69, s110_70, s110_73, hf_bd_v, hf_bd_n, hf_iv_i, hf_iv_l, hf_iv_a, hf_iv_n, hf_iv_2, z_lgl, z_lgg, z_lge, z_lgle, z_lgz, Option.getD_some, Option.isSome_some, ↓reduceIte, not_true_eq_false, not_false_eq_true, Option.toList_some, Option.toList_none, List.cons_append, List.nil_append, Nat.reduceAdd, Nat.add_assoc, ku_ne, ku_same, ne_eq, Nat.reduceEqDiff, reduceCtorEq, Nat.add_eq_left, Nat.left_eq_add, Nat.reduceEqDiff, q10, q_ne, true_or, or_true, hx_k h, hx_r0 h, hx_r1 h, hx_r2 h, hx_r3 h, hx_r4 h, hx_r5 h, h.1, c_needRange he, if_pos h1, if_pos h2, if_pos h3, if_neg h4, hf_bdx hh_110]
      · simp only [s110_0, s110_1, s110_3, s110_4, s110_7, s110_8, s110_10, s110_11, s110_14, s110_15, s110_18, s110_21, s110_24, s110_26, s110_27, s110_29, s110_32, s110_33, s110_36, s110_37, s110_40, s110_50, s110_51, s110_54, s110_55, s110_58, s110_61, s110_62, s110_63, s110_64, s110_65, s110_66, s110_67, s110_69, s110_70, s110_73, hf_bd_v, hf_bd_n, hf_iv_i, hf_iv_l, hf_iv_a, hf_iv_n, hf_iv_2, z_lgl, z_lgg, z_lge, z_lgle, z_lgz, Option.getD_some, Option.isSome_some, ↓reduceIte, not_true_eq_false, not_false_eq_true, Option.toList_some, Option.toList_none, List.cons_append, List.nil_append, Nat.reduceAdd, Nat.add_assoc, ku_ne, ku_same, ne_eq, Nat.reduceEqDiff, reduceCtorEq, Nat.add_eq_left, Nat.left_eq_add, Nat.reduceEqDiff, q10, q_ne, true_or, or_true, hx_k h, hx_r0 h, hx_r1 h, hx_r2 h, hx_r3 h, hx_r4 h, hx_r5 h, h.1, c_needRange he, if_pos h1, if_pos h2, if_neg h3, hf_bdx hh_110]
    · simp only [s110_0, s110_1, s110_3, s110_4, s110_7, s110_8, s110_10, s110_11, s110_14, s110_15, s110_18, s110_21, s110_24, s110_26, s110_27, s110_29, s110_32, s110_33, s110_36, s110_37, s110_40, s110_50, s110_51, s110_54, s110_55, s110_58, s110_61, s110_62, s110_63, s110_64, s110_65, s110_66, s110_67, s110_69, s110_70, s110_73, hf_bd_v, hf_bd_n, hf_iv_i, hf_iv_l, hf_iv_a, hf_iv_n, hf_iv_2, z_lgl, z_lgg, z_lge, z_lgle, z_lgz, Option.getD_some, Option.isSome_some, ↓reduceIte, not_true_eq_false, not_false_eq_true, Option.toList_some, Option.toList_none, List.cons_append, List.nil_append, Nat.reduceAdd, Nat.add_assoc, ku_ne, ku_same, ne_eq, Nat.reduceEqDiff, reduceCtorEq, Nat.add_eq_left, Nat.left_eq_add, Nat.reduceEqDiff, q10, q_ne, true_or, or_true, hx_k h, hx_r0 h, hx_r1 h, hx_r2 h, hx_r3 h, hx_r4 h, hx_r5 h, h.1, c_needRange he, if_pos h1, if_neg h2, hf_bdx hh_110]
  · simp only [s110_0, s110_1, s110_3, s110_4, s110_7, s110_8, s110_10, s110_11, s110_14, s110_15, s110_18, s110_21, s110_24, s110_26, s110_27, s110_29, s110_32, s110_33, s110_36, s110_37, s110_40, s110_50, s110_51, s110_54, s110_55, s110_58, s110_61, s110_62, s110_63, s110_64, s110_65, s110_66, s110_67, s110_69, s110_70, s110_73, hf_bd_v, hf_bd_n, hf_iv_i, hf_iv_l, hf_iv_a, hf_iv_n, hf_iv_2, z_lgl, z_lgg, z_lge, z_lgle, z_lgz, Option.getD_some, Option.isSome_some, ↓reduceIte, not_true_eq_false, not_false_eq_true, Option.toList_some, Option.toList_none, List.cons_append, List.nil_append, Nat.reduceAdd, Nat.add_assoc, ku_ne, ku_same, ne_eq, Nat.reduceEqDiff, reduceCtorEq, Nat.add_eq_left, Nat.left_eq_add, Nat.reduceEqDiff, q10, q_ne, true_or, or_true, hx_k h, hx_r0 h, hx_r1 h, hx_r2 h, hx_r3 h, hx_r4 h, hx_r5 h, h.1, c_needRange he, if_neg h1, hf_bdx hh_110]
/-- one ripple that is drawn -/
def drL (x : Int64) : Int64 := 1103515245 * x + 12345 - (1103515245 * x + 12345) / 2147483648 * 2147483648
def drAm (pw kx ky : Int32) (z : Int64) : Int64 := if z / 65536 - z / 65536 / 2 * 2 = 1 then -by0 pw.toInt64 (kx * kx + ky * ky).toInt64 else by0 pw.toInt64 (kx * kx + ky * ky).toInt64
def drPh (z : Int64) : Int64 := z / 65536 / 2 - z / 65536 / 2 / 16 * 16
def drT (c s : Nat) (pw kx ky : Int32) (p : Int64 × hf_J) : Int64 × hf_J := (drL p.1, rpJ p.2 c s kx.toInt64 ky.toInt64 (drAm pw kx ky (drL p.1)) (drPh (drL p.1)))
def drX : List (Int32 × Int32) := [(0, 1), (0, 2), (1, -2), (1, -1), (1, 0), (1, 1), (1, 2), (2, -2), (2, -1), (2, 0), (2, 1), (2, 2)]
def drF (c s : Nat) (pw : Int32) (p : Int64 × hf_J) : Int64 × hf_J := drX.foldl (fun p k => drT c s pw k.1 k.2 p) p
theorem c_drawR (h : Hx g) (hW : Wv g I) (hc : I 2 5 = nI c) (hc2 : c ≤ 64) (hs : I 2 4 = nI s) : hf_rn 136 0 [some (.ref 0), some (.int i), some (.int pw), none, none, none, none, none, none, none, none] [] g I J = some (.inl (some (.int (drF c s pw (i.toInt64, J)).1.toInt32)), g, I, (drF c s pw (i.toInt64, J)).2) := by
  have hS : Sc g 1 := hx_sc1 h
  have hG : Gr g 2 := sc_gr1 hS
  have f : hf_r g 1 0 = some 2 := sc_r0 hS
  have hr : ∀ (J : hf_J) (u v w q : Int64), hf_rn 22 0 [some (.ref 2), some (.long u), none, some (.long v), none, some (.long w), none, some (.long q), none, none, none, none, none, none] [] g I J = some (.inl none, g, I, rpJ J c s u v w q) := fun J u v w q => c_ripple hG hc hc2 hs hW.1 hW.2
  have turn : ∀ (kx ky : Int32) (p : Int64 × hf_J) (R : Option hf_R) (l7 l8 l9 l10 : Option Value), ky ≤ 2 →
      (∀ l7 l8 l9 l10, hf_rn 136 25 [some (.ref 0), some (.int i), some (.int pw), some (.long (drT c s pw kx ky p).1), none, some (.int kx), some (.int (ky + 1)), l7, l8, l9, l10] [] g I (drT c s pw kx ky p).2 = R) →
      hf_rn 136 25 [some (.ref 0), some (.int i), some (.int pw), some (.long p.1), none, some (.int kx), some (.int ky), l7, l8, l9, l10] [] g I p.2 = R := by
    intro kx ky p R l7 l8 l9 l10 hk hR
    have hk2 : ¬ 2 < ky := fun c => I_nle c hk
    unfold drT drAm at hR
    by_cases c1 : drL p.1 / 65536 - drL p.1 / 65536 / 2 * 2 = 1
    · rw [if_pos c1] at hR
      unfold drL at c1 hR
      simp only [s136_25, s136_27, s136_28, s136_31, s136_34, s136_35, s136_36, s136_39, s136_40, s136_43, s136_44, s136_45, s136_46, s136_49, s136_50, s136_52, s136_53, s136_54, s136_56, s136_58, s136_59, s136_61, s136_63, s136_64, s136_65, s136_66, s136_69, s136_71, s136_72, s136_75, s136_78, s136_80, s136_81, s136_83, s136_84, s136_86, s136_89, s136_90, s136_91, s136_92, s136_95, s136_97, s136_98, s136_101, s136_103, s136_105, s136_108, s136_109, s136_112, s136_113, s136_116, hf_bd_v, hf_bd_n, hf_iv_i, hf_iv_l, hf_iv_a, hf_iv_n, hf_iv_2, z_lgl, z_lgg, z_lge, z_lgle, z_lgz, Option.getD_some, Option.isSome_some, ↓reduceIte, not_true_eq_false, not_false_eq_true, Option.toList_some, Option.toList_none, List.cons_append, List.nil_append, Nat.reduceAdd, Nat.add_assoc, ku_ne, ku_same, ne_eq, Nat.reduceEqDiff, reduceCtorEq, Nat.add_eq_left, Nat.left_eq_add, Nat.reduceEqDiff, q10, q_ne, true_or, or_true, hx_k h, hx_r0 h, hx_r1 h, hx_r2 h, hx_r3 h, hx_r4 h, hx_r5 h, h.1, hS.1, hG.1, f, hk2, c_by, hr, show ¬ (2147483648 : Int64) = 0 by decide, show ¬ (65536 : Int64) = 0 by decide, q2, q16, c1]
      rw [s136_119]
      exact hR _ _ _ _
    · rw [if_neg c1] at hR
      unfold drL at c1 hR
      simp only [s136_25, s136_27, s136_28, s136_31, s136_34, s136_35, s136_36, s136_39, s136_40, s136_43, s136_44, s136_45, s136_46, s136_49, s136_50, s136_52, s136_53, s136_54, s136_56, s136_58, s136_59, s136_61, s136_63, s136_64, s136_65, s136_66, s136_69, s136_71, s136_72, s136_75, s136_78, s136_80, s136_81, s136_83, s136_84, s136_86, s136_89, s136_90, s136_91, s136_92, s136_95, s136_97, s136_98, s136_101, s136_103, s136_105, s136_108, s136_109, s136_112, s136_113, s136_116, hf_bd_v, hf_bd_n, hf_iv_i, hf_iv_l, hf_iv_a, hf_iv_n, hf_iv_2, z_lgl, z_lgg, z_lge, z_lgle, z_lgz, Option.getD_some, Option.isSome_some, ↓reduceIte, not_true_eq_false, not_false_eq_true, Option.toList_some, Option.toList_none, List.cons_append, List.nil_append, Nat.reduceAdd, Nat.add_assoc, ku_ne, ku_same, ne_eq, Nat.reduceEqDiff, reduceCtorEq, Nat.add_eq_left, Nat.left_eq_add, Nat.reduceEqDiff, q10, q_ne, true_or, or_true, hx_k h, hx_r0 h, hx_r1 h, hx_r2 h, hx_r3 h, hx_r4 h, hx_r5 h, h.1, hS.1, hG.1, f, hk2, c_by, hr, show ¬ (2147483648 : Int64) = 0 by decide, show ¬ (65536 : Int64) = 0 by decide, q2, q16, c1]
      rw [s136_119]
      exact hR _ _ _ _
  have row : ∀ (kx : Int32) (p : Int64 × hf_J) (R : Option hf_R) (l7 l8 l9 l10 : Option Value), hf_rn 136 6 [some (.ref 0), some (.int i), some (.int pw), some (.long p.1), none, some (.int (kx + 1)), some (.int 3), l7, l8, l9, l10] [] g I p.2 = R →
      hf_rn 136 25 [some (.ref 0), some (.int i), some (.int pw), some (.long p.1), none, some (.int kx), some (.int 3), l7, l8, l9, l10] [] g I p.2 = R := by
    intro kx p R l7 l8 l9 l10 hR
    simp only [s136_25, s136_27, s136_28, s136_122, hf_bd_v, hf_bd_n, hf_iv_i, hf_iv_l, hf_iv_a, hf_iv_n, hf_iv_2, z_lgl, z_lgg, z_lge, z_lgle, z_lgz, Option.getD_some, Option.isSome_some, ↓reduceIte, not_true_eq_false, not_false_eq_true, Option.toList_some, Option.toList_none, List.cons_append, List.nil_append, Nat.reduceAdd, Nat.add_assoc, ku_ne, ku_same, ne_eq, Nat.reduceEqDiff, reduceCtorEq, Nat.add_eq_left, Nat.left_eq_add, Nat.reduceEqDiff, q10, q_ne, true_or, or_true, show (2 : Int32) < 3 from by decide]
    rw [s136_125]
    exact hR
  have e1 : (1 : Int32) + 1 = 2 := by decide
  have e2 : (2 : Int32) + 1 = 3 := by decide
  have e3 : (-2 : Int32) + 1 = -1 := by decide
  have e4 : (-1 : Int32) + 1 = 0 := by decide
  have e5 : (0 : Int32) + 1 = 1 := by decide
  have line : ∀ (kx : Int32) (p : Int64 × hf_J) (R : Option hf_R) (l7 l8 l9 l10 : Option Value), (∀ l7 l8 l9 l10, hf_rn 136 6 [some (.ref 0), some (.int i), some (.int pw), some (.long ([(kx, -2), (kx, -1), (kx, 0), (kx, 1), (kx, 2)].foldl (fun p k => drT c s pw k.1 k.2 p) p).1), none, some (.int (kx + 1)), some (.int 3), l7, l8, l9, l10] [] g I ([(kx, (-2 : Int32)), (kx, -1), (kx, 0), (kx, 1), (kx, 2)].foldl (fun p k => drT c s pw k.1 k.2 p) p).2 = R) →
      hf_rn 136 25 [some (.ref 0), some (.int i), some (.int pw), some (.long p.1), none, some (.int kx), some (.int (-2)), l7, l8, l9, l10] [] g I p.2 = R := by
    intro kx p R l7 l8 l9 l10 hR
    refine turn kx (-2) p R _ _ _ _ (by decide) (fun l7 l8 l9 l10 => ?_)
    rw [e3]
    refine turn kx (-1) _ R _ _ _ _ (by decide) (fun l7 l8 l9 l10 => ?_)
    rw [e4]
    refine turn kx 0 _ R _ _ _ _ (by decide) (fun l7 l8 l9 l10 => ?_)
    rw [e5]
    refine turn kx 1 _ R _ _ _ _ (by decide) (fun l7 l8 l9 l10 => ?_)
    rw [e1]
    refine turn kx 2 _ R _ _ _ _ (by decide) (fun l7 l8 l9 l10 => ?_)
    rw [e2]
    exact row kx _ R _ _ _ _ (hR _ _ _ _)
  simp only [s136_0, s136_1, s136_2, s136_3, s136_4, hf_bd_v, hf_bd_n, hf_iv_i, hf_iv_l, hf_iv_a, hf_iv_n, hf_iv_2, z_lgl, z_lgg, z_lge, z_lgle, z_lgz, Option.getD_some, Option.isSome_some, ↓reduceIte, not_true_eq_false, not_false_eq_true, Option.toList_some, Option.toList_none, List.cons_append, List.nil_append, Nat.reduceAdd, Nat.add_assoc, ku_ne, ku_same, ne_eq, Nat.reduceEqDiff, reduceCtorEq, Nat.add_eq_left, Nat.left_eq_add, Nat.reduceEqDiff, q10, q_ne, true_or, or_true]
  simp only [s136_6, s136_8, s136_9, s136_12, s136_14, s136_17, s136_18, s136_21, s136_23, hf_bd_v, hf_bd_n, hf_iv_i, hf_iv_l, hf_iv_a, hf_iv_n, hf_iv_2, z_lgl, z_lgg, z_lge, z_lgle, z_lgz, Option.getD_some, Option.isSome_some, ↓reduceIte, not_true_eq_false, not_false_eq_true, Option.toList_some, Option.toList_none, List.cons_append, List.nil_append, Nat.reduceAdd, Nat.add_assoc, ku_ne, ku_same, ne_eq, Nat.reduceEqDiff, reduceCtorEq, Nat.add_eq_left, Nat.left_eq_add, Nat.reduceEqDiff, q10, q_ne, true_or, or_true, show ((2 : Int32) < 0) = False from eq_false (by decide)]
  refine turn 0 1 (i.toInt64, J) _ _ _ _ _ (by decide) (fun l7 l8 l9 l10 => ?_)
  rw [e1]
  refine turn 0 2 _ _ _ _ _ _ (by decide) (fun l7 l8 l9 l10 => ?_)
  rw [e2]
  refine row 0 _ _ _ _ _ _ ?_
  rw [e5]
  simp only [s136_6, s136_8, s136_9, s136_12, s136_14, s136_17, s136_18, s136_21, s136_23, hf_bd_v, hf_bd_n, hf_iv_i, hf_iv_l, hf_iv_a, hf_iv_n, hf_iv_2, z_lgl, z_lgg, z_lge, z_lgle, z_lgz, Option.getD_some, Option.isSome_some, ↓reduceIte, not_true_eq_false, not_false_eq_true, Option.toList_some, Option.toList_none, List.cons_append, List.nil_append, Nat.reduceAdd, Nat.add_assoc, ku_ne, ku_same, ne_eq, Nat.reduceEqDiff, reduceCtorEq, Nat.add_eq_left, Nat.left_eq_add, Nat.reduceEqDiff, q10, q_ne, true_or, or_true, show ((2 : Int32) < 1) = False from eq_false (by decide)]
  refine line 1 _ _ _ _ _ _ (fun l7 l8 l9 l10 => ?_)
  rw [e1]
  simp only [s136_6, s136_8, s136_9, s136_12, s136_14, s136_17, s136_18, s136_21, s136_23, hf_bd_v, hf_bd_n, hf_iv_i, hf_iv_l, hf_iv_a, hf_iv_n, hf_iv_2, z_lgl, z_lgg, z_lge, z_lgle, z_lgz, Option.getD_some, Option.isSome_some, ↓reduceIte, not_true_eq_false, not_false_eq_true, Option.toList_some, Option.toList_none, List.cons_append, List.nil_append, Nat.reduceAdd, Nat.add_assoc, ku_ne, ku_same, ne_eq, Nat.reduceEqDiff, reduceCtorEq, Nat.add_eq_left, Nat.left_eq_add, Nat.reduceEqDiff, q10, q_ne, true_or, or_true, show ((2 : Int32) < 2) = False from eq_false (by decide), show ((2 : Int32) = 0) = False from eq_false (by decide)]
  refine line 2 _ _ _ _ _ _ (fun l7 l8 l9 l10 => ?_)
  rw [e2]
  simp only [s136_6, s136_8, s136_9, s136_12, s136_14, s136_17, s136_18, s136_21, s136_23, s136_128, s136_129, s136_130, hf_bd_v, hf_bd_n, hf_iv_i, hf_iv_l, hf_iv_a, hf_iv_n, hf_iv_2, z_lgl, z_lgg, z_lge, z_lgle, z_lgz, Option.getD_some, Option.isSome_some, ↓reduceIte, not_true_eq_false, not_false_eq_true, Option.toList_some, Option.toList_none, List.cons_append, List.nil_append, Nat.reduceAdd, Nat.add_assoc, ku_ne, ku_same, ne_eq, Nat.reduceEqDiff, reduceCtorEq, Nat.add_eq_left, Nat.left_eq_add, Nat.reduceEqDiff, q10, q_ne, true_or, or_true, show ((2 : Int32) < 3) = True from eq_true (by decide)]
  simp only [drF, drX, List.foldl_cons, List.foldl_nil]
theorem c_drawF (h : Hx g) (he : hf_n g < 1000000) (hW : Wv g I) (hc : I 2 5 = nI c) (hc2 : c ≤ 64) (hs : I 2 4 = nI s) (h1 : 0 ≤ i) (h2 : 0 ≤ j ∧ j ≤ 1000) (ha : I 0 6 = 1) : hf_rn 111 0 [some (.ref 0), some (.int i), some (.int j)] [] g I J = some (.inl (some (.int (drF c s j (i.toInt64, J)).1.toInt32)), g, I, (drF c s j (i.toInt64, J)).2) := by
  have hna := c_needAge (I := I) (J := J) h
  rw [if_pos ha] at hna
  have hd := c_drawR (i := i) (pw := j) (J := J) h hW hc hc2 hs
  simp only [s111_0, s111_1, s111_4, s111_5, s111_6, s111_9, s111_12, s111_13, s111_16, s111_17, s111_18, s111_19, s111_22, hf_bd_v, hf_bd_n, hf_iv_i, hf_iv_l, hf_iv_a, hf_iv_n, hf_iv_2, z_lgl, z_lgg, z_lge, z_lgle, z_lgz, Option.getD_some, Option.isSome_some, ↓reduceIte, not_true_eq_false, not_false_eq_true, Option.toList_some, Option.toList_none, List.cons_append, List.nil_append, Nat.reduceAdd, Nat.add_assoc, ku_ne, ku_same, ne_eq, Nat.reduceEqDiff, reduceCtorEq, Nat.add_eq_left, Nat.left_eq_add, Nat.reduceEqDiff, q10, q_ne, true_or, or_true, h.1, c_needNot0, if_pos h1, c_needRange he, if_pos h2, hna, hd]
theorem c_drawX2 (h : Hx g) (he : hf_n g < 1000000) (h1 : 0 ≤ i) (h2 : 0 ≤ j ∧ j ≤ 1000) (ha : ¬ I 0 6 = 1) : hf_rn 111 0 [some (.ref 0), some (.int i), some (.int j)] [] g I J = some (.inr 2, hf_th g, I, J) := by
  have hna := c_needAge (I := I) (J := J) h
  rw [if_neg ha] at hna
  simp only [s111_0, s111_1, s111_4, s111_5, s111_6, s111_9, s111_12, s111_13, s111_16, s111_17, s111_18, s111_19, s111_22, hf_bd_v, hf_bd_n, hf_iv_i, hf_iv_l, hf_iv_a, hf_iv_n, hf_iv_2, z_lgl, z_lgg, z_lge, z_lgle, z_lgz, Option.getD_some, Option.isSome_some, ↓reduceIte, not_true_eq_false, not_false_eq_true, Option.toList_some, Option.toList_none, List.cons_append, List.nil_append, Nat.reduceAdd, Nat.add_assoc, ku_ne, ku_same, ne_eq, Nat.reduceEqDiff, reduceCtorEq, Nat.add_eq_left, Nat.left_eq_add, Nat.reduceEqDiff, q10, q_ne, true_or, or_true, h.1, c_needNot0, if_pos h1, c_needRange he, if_pos h2, hna, hf_bdx hh_111]
theorem c_drawX1 (h : Hx g) (he : hf_n g < 1000000) (h1 : ¬ (0 ≤ i ∧ 0 ≤ j ∧ j ≤ 1000)) : hf_rn 111 0 [some (.ref 0), some (.int i), some (.int j)] [] g I J = some (.inr 1, hf_th g, I, J) := by
  by_cases h2 : 0 ≤ i
  · have h3 : ¬ (0 ≤ j ∧ j ≤ 1000) := fun c => h1 ⟨h2, c⟩
    simp only [s111_0, s111_1, s111_4, s111_5, s111_6, s111_9, s111_12, s111_13, s111_16, s111_17, s111_18, s111_19, s111_22, hf_bd_v, hf_bd_n, hf_iv_i, hf_iv_l, hf_iv_a, hf_iv_n, hf_iv_2, z_lgl, z_lgg, z_lge, z_lgle, z_lgz, Option.getD_some, Option.isSome_some, ↓reduceIte, not_true_eq_false, not_false_eq_true, Option.toList_some, Option.toList_none, List.cons_append, List.nil_append, Nat.reduceAdd, Nat.add_assoc, ku_ne, ku_same, ne_eq, Nat.reduceEqDiff, reduceCtorEq, Nat.add_eq_left, Nat.left_eq_add, Nat.reduceEqDiff, q10, q_ne, true_or, or_true, h.1, c_needNot0, if_pos h2, c_needRange he, if_neg h3, hf_bdx hh_111]
  · simp only [s111_0, s111_1, s111_4, s111_5, s111_6, s111_9, s111_12, s111_13, s111_16, s111_17, s111_18, s111_19, s111_22, hf_bd_v, hf_bd_n, hf_iv_i, hf_iv_l, hf_iv_a, hf_iv_n, hf_iv_2, z_lgl, z_lgg, z_lge, z_lgle, z_lgz, Option.getD_some, Option.isSome_some, ↓reduceIte, not_true_eq_false, not_false_eq_true, Option.toList_some, Option.toList_none, List.cons_append, List.nil_append, Nat.reduceAdd, Nat.add_assoc, ku_ne, ku_same, ne_eq, Nat.reduceEqDiff, reduceCtorEq, Nat.add_eq_left, Nat.left_eq_add, Nat.reduceEqDiff, q10, q_ne, true_or, or_true, h.1, c_needNot0, if_neg h2, hf_bdx hh_111]
/-- all forces as they are found -/
def faJ (J : hf_J) (c : Nat) : hf_J := w2 J 240 242 (fr0 c (prX (J 238 0) (J 238 1) (J 4) (J 6)) (zeR J 240 64)) (fr0 c (prY (J 238 0) (J 238 1) (J 4) (J 6)) (zeR J 242 64))
theorem c_fa (h : Hx g) (hp : Pu g) (hc : I 2 5 = nI c) (hc2 : c ≤ 64) : hf_rn 52 0 [some (.ref 238), some (.ref 2), none] [] g I J = some (.inl none, g, I, faJ J c) := c_findAll hp (sc_gr1 (hx_sc1 h)) (by decide) hc hc2
theorem c_forceAX (h : Hx g) (hp : Pu g) (hc : I 2 5 = nI c) (hc2 : c ≤ 64) (hk : k < c) : hf_rn 113 0 [some (.ref 0), some (.int (nI k)), some (.int 1), some (.int 0)] [] g I J = some (.inl (some (.long (faJ J c 240 k))), g, I, faJ J c) := by
  have hS : Sc g 1 := hx_sc1 h
  have hG : Gr g 2 := sc_gr1 hS
  have f : hf_r g 1 0 = some 2 := sc_r0 hS
  have hfa := c_fa (J := J) h hp hc hc2
  have hr := pu_rw239 hp
  simp only [s113_0, s113_1, s113_4, s113_5, s113_6, s113_9, s113_12, s113_15, s113_18, s113_28, s113_29, s113_32, s113_33, s113_36, s113_37, s113_40, s113_43, s113_44, s113_45, s113_48, s113_49, s113_50, s113_53, s113_54, s113_57, s113_60, s113_63, s113_64, s113_67, s113_68, s113_71, s113_72, s113_75, hf_bd_v, hf_bd_n, hf_iv_i, hf_iv_l, hf_iv_a, hf_iv_n, hf_iv_2, z_lgl, z_lgg, z_lge, z_lgle, z_lgz, Option.getD_some, Option.isSome_some, ↓reduceIte, not_true_eq_false, not_false_eq_true, Option.toList_some, Option.toList_none, List.cons_append, List.nil_append, Nat.reduceAdd, Nat.add_assoc, ku_ne, ku_same, ne_eq, Nat.reduceEqDiff, reduceCtorEq, Nat.add_eq_left, Nat.left_eq_add, Nat.reduceEqDiff, q10, q_ne, true_or, or_true, hx_k h, hx_r0 h, hx_r1 h, hx_r2 h, hx_r3 h, hx_r4 h, hx_r5 h, h.1, hS.1, hG.1, f, hp.1, hc, z_i0 (show k < 2147483648 by omega), z_il (show k < 2147483648 by omega) (show c < 2147483648 by omega), hk, hfa, c_foundX hp, hr.1, c_get hr (show k < 64 by omega)]
theorem c_forceCX (h : Hx g) (hp : Pu g) (hc : I 2 5 = nI c) (hc2 : c ≤ 64) (hk : k < c) (cl : Nat → Nat) (hcl : ∀ m, m < c → cl m < 16 ∧ clL (J 4) (J 6) m = nI (cl m)) : hf_rn 113 0 [some (.ref 0), some (.int (nI k)), some (.int 1), some (.int 1)] [] g I J = some (.inl (some (.long (bclX J 2 c k cl))), g, I, w3 J 244 246 248 (cs1 c (neL (J 4) (J 6) k) cl (fun _ => 1) (zeR J 244 16)) (cs1 c (neL (J 4) (J 6) k) cl (fun m => rmL (J 4 m) 1024) (zeR J 246 16)) (cs1 c (neL (J 4) (J 6) k) cl (fun m => rmL (J 6 m) 1024) (zeR J 248 16))) := by
  have hS : Sc g 1 := hx_sc1 h
  have hG : Gr g 2 := sc_gr1 hS
  have f : hf_r g 1 0 = some 2 := sc_r0 hS
  have hb := c_byCellsX (J := J) hp hG (by decide) hc hc2 (show k < 64 by omega) cl hcl
  simp only [s113_0, s113_1, s113_4, s113_5, s113_6, s113_9, s113_12, s113_15, s113_18, s113_28, s113_29, s113_32, s113_33, s113_36, s113_37, s113_40, s113_43, s113_44, s113_45, s113_48, s113_49, s113_50, s113_53, s113_54, s113_57, s113_60, s113_63, s113_64, s113_67, s113_68, s113_71, s113_72, s113_75, hf_bd_v, hf_bd_n, hf_iv_i, hf_iv_l, hf_iv_a, hf_iv_n, hf_iv_2, z_lgl, z_lgg, z_lge, z_lgle, z_lgz, Option.getD_some, Option.isSome_some, ↓reduceIte, not_true_eq_false, not_false_eq_true, Option.toList_some, Option.toList_none, List.cons_append, List.nil_append, Nat.reduceAdd, Nat.add_assoc, ku_ne, ku_same, ne_eq, Nat.reduceEqDiff, reduceCtorEq, Nat.add_eq_left, Nat.left_eq_add, Nat.reduceEqDiff, q10, q_ne, true_or, or_true, hx_k h, hx_r0 h, hx_r1 h, hx_r2 h, hx_r3 h, hx_r4 h, hx_r5 h, h.1, hS.1, hG.1, f, hp.1, hc, z_i0 (show k < 2147483648 by omega), z_il (show k < 2147483648 by omega) (show c < 2147483648 by omega), hk, hb]
theorem c_forceAY (h : Hx g) (hp : Pu g) (hc : I 2 5 = nI c) (hc2 : c ≤ 64) (hk : k < c) : hf_rn 113 0 [some (.ref 0), some (.int (nI k)), some (.int 0), some (.int 0)] [] g I J = some (.inl (some (.long (faJ J c 242 k))), g, I, faJ J c) := by
  have hS : Sc g 1 := hx_sc1 h
  have hG : Gr g 2 := sc_gr1 hS
  have f : hf_r g 1 0 = some 2 := sc_r0 hS
  have hfa := c_fa (J := J) h hp hc hc2
  have hr := pu_rw241 hp
  simp only [s113_0, s113_1, s113_4, s113_5, s113_6, s113_9, s113_12, s113_15, s113_18, s113_28, s113_29, s113_32, s113_33, s113_36, s113_37, s113_40, s113_43, s113_44, s113_45, s113_48, s113_49, s113_50, s113_53, s113_54, s113_57, s113_60, s113_63, s113_64, s113_67, s113_68, s113_71, s113_72, s113_75, hf_bd_v, hf_bd_n, hf_iv_i, hf_iv_l, hf_iv_a, hf_iv_n, hf_iv_2, z_lgl, z_lgg, z_lge, z_lgle, z_lgz, Option.getD_some, Option.isSome_some, ↓reduceIte, not_true_eq_false, not_false_eq_true, Option.toList_some, Option.toList_none, List.cons_append, List.nil_append, Nat.reduceAdd, Nat.add_assoc, ku_ne, ku_same, ne_eq, Nat.reduceEqDiff, reduceCtorEq, Nat.add_eq_left, Nat.left_eq_add, Nat.reduceEqDiff, q10, q_ne, true_or, or_true, hx_k h, hx_r0 h, hx_r1 h, hx_r2 h, hx_r3 h, hx_r4 h, hx_r5 h, h.1, hS.1, hG.1, f, hp.1, hc, z_i0 (show k < 2147483648 by omega), z_il (show k < 2147483648 by omega) (show c < 2147483648 by omega), hk, hfa, c_foundY hp, hr.1, c_get hr (show k < 64 by omega)]
theorem c_forceCY (h : Hx g) (hp : Pu g) (hc : I 2 5 = nI c) (hc2 : c ≤ 64) (hk : k < c) (cl : Nat → Nat) (hcl : ∀ m, m < c → cl m < 16 ∧ clL (J 4) (J 6) m = nI (cl m)) : hf_rn 113 0 [some (.ref 0), some (.int (nI k)), some (.int 0), some (.int 1)] [] g I J = some (.inl (some (.long (bclY J 2 c k cl))), g, I, w3 J 244 246 248 (cs1 c (neL (J 4) (J 6) k) cl (fun _ => 1) (zeR J 244 16)) (cs1 c (neL (J 4) (J 6) k) cl (fun m => rmL (J 4 m) 1024) (zeR J 246 16)) (cs1 c (neL (J 4) (J 6) k) cl (fun m => rmL (J 6 m) 1024) (zeR J 248 16))) := by
  have hS : Sc g 1 := hx_sc1 h
  have hG : Gr g 2 := sc_gr1 hS
  have f : hf_r g 1 0 = some 2 := sc_r0 hS
  have hb := c_byCellsY (J := J) hp hG (by decide) hc hc2 (show k < 64 by omega) cl hcl
  simp only [s113_0, s113_1, s113_4, s113_5, s113_6, s113_9, s113_12, s113_15, s113_18, s113_28, s113_29, s113_32, s113_33, s113_36, s113_37, s113_40, s113_43, s113_44, s113_45, s113_48, s113_49, s113_50, s113_53, s113_54, s113_57, s113_60, s113_63, s113_64, s113_67, s113_68, s113_71, s113_72, s113_75, hf_bd_v, hf_bd_n, hf_iv_i, hf_iv_l, hf_iv_a, hf_iv_n, hf_iv_2, z_lgl, z_lgg, z_lge, z_lgle, z_lgz, Option.getD_some, Option.isSome_some, ↓reduceIte, not_true_eq_false, not_false_eq_true, Option.toList_some, Option.toList_none, List.cons_append, List.nil_append, Nat.reduceAdd, Nat.add_assoc, ku_ne, ku_same, ne_eq, Nat.reduceEqDiff, reduceCtorEq, Nat.add_eq_left, Nat.left_eq_add, Nat.reduceEqDiff, q10, q_ne, true_or, or_true, hx_k h, hx_r0 h, hx_r1 h, hx_r2 h, hx_r3 h, hx_r4 h, hx_r5 h, h.1, hS.1, hG.1, f, hp.1, hc, z_i0 (show k < 2147483648 by omega), z_il (show k < 2147483648 by omega) (show c < 2147483648 by omega), hk, hb]
theorem c_forceX (h : Hx g) (hc : ¬ (0 ≤ i ∧ i < I 2 5)) : hf_rn 113 0 [some (.ref 0), some (.int i), some (.int x), some (.int y)] [] g I J = some (.inr 3, hf_th g, I, J) := by
  have hS : Sc g 1 := hx_sc1 h
  have hG : Gr g 2 := sc_gr1 hS
  have f : hf_r g 1 0 = some 2 := sc_r0 hS
  by_cases h1 : i < 0
  · simp only [s113_0, s113_1, s113_4, s113_5, s113_6, s113_9, s113_12, s113_15, s113_18, s113_28, s113_29, s113_32, s113_33, s113_36, s113_37, s113_40, s113_43, s113_44, s113_45, s113_48, s113_49, s113_50, s113_53, s113_54, s113_57, s113_60, s113_63, s113_64, s113_67, s113_68, s113_71, s113_72, s113_75, hf_bd_v, hf_bd_n, hf_iv_i, hf_iv_l, hf_iv_a, hf_iv_n, hf_iv_2, z_lgl, z_lgg, z_lge, z_lgle, z_lgz, Option.getD_some, Option.isSome_some, ↓reduceIte, not_true_eq_false, not_false_eq_true, Option.toList_some, Option.toList_none, List.cons_append, List.nil_append, Nat.reduceAdd, Nat.add_assoc, ku_ne, ku_same, ne_eq, Nat.reduceEqDiff, reduceCtorEq, Nat.add_eq_left, Nat.left_eq_add, Nat.reduceEqDiff, q10, q_ne, true_or, or_true, hx_k h, hx_r0 h, hx_r1 h, hx_r2 h, hx_r3 h, hx_r4 h, hx_r5 h, h.1, hS.1, hG.1, f, h1]
  · have h2 : ¬ i < I 2 5 := fun c => hc ⟨I_le h1, c⟩
    simp only [s113_0, s113_1, s113_4, s113_5, s113_6, s113_9, s113_12, s113_15, s113_18, s113_28, s113_29, s113_32, s113_33, s113_36, s113_37, s113_40, s113_43, s113_44, s113_45, s113_48, s113_49, s113_50, s113_53, s113_54, s113_57, s113_60, s113_63, s113_64, s113_67, s113_68, s113_71, s113_72, s113_75, hf_bd_v, hf_bd_n, hf_iv_i, hf_iv_l, hf_iv_a, hf_iv_n, hf_iv_2, z_lgl, z_lgg, z_lge, z_lgle, z_lgz, Option.getD_some, Option.isSome_some, ↓reduceIte, not_true_eq_false, not_false_eq_true, Option.toList_some, Option.toList_none, List.cons_append, List.nil_append, Nat.reduceAdd, Nat.add_assoc, ku_ne, ku_same, ne_eq, Nat.reduceEqDiff, reduceCtorEq, Nat.add_eq_left, Nat.left_eq_add, Nat.reduceEqDiff, q10, q_ne, true_or, or_true, hx_k h, hx_r0 h, hx_r1 h, hx_r2 h, hx_r3 h, hx_r4 h, hx_r5 h, h.1, hS.1, hG.1, f, h1, h2]
/-- one step -/
def haJ (J : hf_J) (c : Nat) : hf_J := rwm2 J 8 10 c (fun k => J 8 k + J 240 k) (fun k => J 10 k + J 242 k)
def mvJ (J : hf_J) (c : Nat) (i : Int32) : hf_J := rwm2 J 4 6 c (fun k => plc (J 4 k + by0 (J 8 k) (16 * i.toInt64))) (fun k => plc (J 6 k + by0 (J 10 k) (16 * i.toInt64)))
def spJ (J : hf_J) (c : Nat) (i : Int32) : hf_J := mvJ (haJ (faJ J c) c) c i
theorem c_onePass (h : Hx g) (hp : Pu g) (hc : I 2 5 = nI c) (hc2 : c ≤ 64) : hf_rn 137 0 [some (.ref 0)] [] g I J = some (.inl none, g, hf_u I 0 6 (I 0 6 + 1), spJ J c (I 0 6)) := by
  have hS : Sc g 1 := hx_sc1 h
  have hG : Gr g 2 := sc_gr1 hS
  have f : hf_r g 1 0 = some 2 := sc_r0 hS
  have hfa := c_fa (J := J) h hp hc hc2
  have hha : ∀ J : hf_J, hf_rn 26 0 [some (.ref 2), some (.ref 239), some (.ref 241), none] [] g I J = some (.inl none, g, I, haJ J c) := fun J => c_hasten hG hc hc2 (pu_rw239 hp) (pu_rw241 hp) (by decide)
  have hmv : ∀ (J : hf_J) i, hf_rn 27 0 [some (.ref 2), some (.int i), none, none, none] [] g I J = some (.inl none, g, I, mvJ J c i) := fun J i => c_move hG hc hc2
  simp only [s137_0, s137_1, s137_4, s137_5, s137_8, s137_11, s137_14, s137_15, s137_18, s137_21, s137_22, s137_25, s137_26, s137_29, s137_30, s137_33, s137_34, s137_37, s137_40, s137_41, s137_44, s137_47, s137_48, s137_51, s137_54, s137_55, s137_56, s137_59, s137_60, s137_61, s137_64, hf_bd_v, hf_bd_n, hf_iv_i, hf_iv_l, hf_iv_a, hf_iv_n, hf_iv_2, z_lgl, z_lgg, z_lge, z_lgle, z_lgz, Option.getD_some, Option.isSome_some, ↓reduceIte, not_true_eq_false, not_false_eq_true, Option.toList_some, Option.toList_none, List.cons_append, List.nil_append, Nat.reduceAdd, Nat.add_assoc, ku_ne, ku_same, ne_eq, Nat.reduceEqDiff, reduceCtorEq, Nat.add_eq_left, Nat.left_eq_add, Nat.reduceEqDiff, q10, q_ne, true_or, or_true, hx_k h, hx_r0 h, hx_r1 h, hx_r2 h, hx_r3 h, hx_r4 h, hx_r5 h, h.1, hS.1, hG.1, f, hp.1, hfa, c_foundX hp, c_foundY hp, hha, hmv]
  rfl
def stJ (J : hf_J) (c a t : Nat) : hf_J := it t J fun k J => spJ J c (nI (a + k))
theorem c_stepF (h : Hx g) (he : hf_n g < 1000000) (hp : Pu g) (hc : I 2 5 = nI c) (hc2 : c ≤ 64) (ha : I 0 6 = nI a) (hm : 1 ≤ m ∧ m ≤ 20) (ham : a + m ≤ 1000) : hf_rn 114 0 [some (.ref 0), some (.int (nI m)), none] [] g I J = some (.inl (some (.int (nI (a + m)))), g, hf_u I 0 6 (nI (a + m)), stJ J c a m) := by
  have hm2 : (1 : Int32) ≤ nI m ∧ nI m ≤ 20 := ⟨by rw [show (1 : Int32) = nI 1 from rfl]; exact nI_le hm.1 (by omega), by rw [show (20 : Int32) = nI 20 from rfl]; exact nI_le hm.2 (by omega)⟩
  have hlt : ((1000 : Int32) < nI (a + m)) = False := by rw [show (1000 : Int32) = nI 1000 from rfl, z_il (by omega) (by omega)]; exact eq_false (by omega)
  have hle : (nI (a + m) ≤ 1000) = True := by rw [show (1000 : Int32) = nI 1000 from rfl, z_ii (by omega) (by omega)]; exact eq_true (by omega)
  have loop : hf_rn 114 31 [some (.ref 0), some (.int (nI m)), some (.int (nI 0))] [] g (hf_u I 0 6 (nI (a + 0))) J = some (.inl (some (.int (nI (a + m)))), g, hf_u I 0 6 (nI (a + m)), stJ J c a m) := by
    refine down (n := m) (s := J) (f := fun k J => spJ J c (nI (a + k))) (fun t J1 => hf_rn 114 31 [some (.ref 0), some (.int (nI m)), some (.int (nI t))] [] g (hf_u I 0 6 (nI (a + t))) J1 = some (.inl (some (.int (nI (a + m)))), g, hf_u I 0 6 (nI (a + m)), stJ J c a m)) ?_ ?_
    · simp only [s114_0, s114_1, s114_2, s114_4, s114_7, s114_8, s114_11, s114_12, s114_13, s114_16, s114_19, s114_29, s114_30, s114_31, s114_32, s114_33, s114_36, s114_37, s114_40, s114_46, s114_47, s114_50, hf_bd_v, hf_bd_n, hf_iv_i, hf_iv_l, hf_iv_a, hf_iv_n, hf_iv_2, z_lgl, z_lgg, z_lge, z_lgle, z_lgz, Option.getD_some, Option.isSome_some, ↓reduceIte, not_true_eq_false, not_false_eq_true, Option.toList_some, Option.toList_none, List.cons_append, List.nil_append, Nat.reduceAdd, Nat.add_assoc, ku_ne, ku_same, ne_eq, Nat.reduceEqDiff, reduceCtorEq, Nat.add_eq_left, Nat.left_eq_add, Nat.reduceEqDiff, q10, q_ne, true_or, or_true, hx_k h, hx_r0 h, hx_r1 h, hx_r2 h, hx_r3 h, hx_r4 h, hx_r5 h, z_ii (show m < 2147483648 by omega) (show m < 2147483648 by omega), Nat.le_refl]
      rfl
    · intro t J1 ht hx ih
      have hk1 : ¬ m ≤ t := by omega
      have ho := c_onePass (I := hf_u I 0 6 (nI (a + t))) (J := J1) h hp (by rw [ku_ne (by decide), hc]) hc2
      rw [ku_same, ku_ku] at ho
      simp only [s114_31, s114_32, s114_33, s114_36, s114_37, s114_40, hf_bd_v, hf_bd_n, hf_iv_i, hf_iv_l, hf_iv_a, hf_iv_n, hf_iv_2, z_lgl, z_lgg, z_lge, z_lgle, z_lgz, Option.getD_some, Option.isSome_some, ↓reduceIte, not_true_eq_false, not_false_eq_true, Option.toList_some, Option.toList_none, List.cons_append, List.nil_append, Nat.reduceAdd, Nat.add_assoc, ku_ne, ku_same, ne_eq, Nat.reduceEqDiff, reduceCtorEq, Nat.add_eq_left, Nat.left_eq_add, Nat.reduceEqDiff, q10, q_ne, true_or, or_true, h.1, z_ii (show m < 2147483648 by omega) (show t < 2147483648 by omega), hk1, z_1, ho]
      rw [s114_43]
      exact ih
  have e0 : hf_u I 0 6 (nI (a + 0)) = I := by
    rw [Nat.add_zero, ← ha]
    funext y z
    unfold hf_u
    split
    · rename_i e; rw [e.1, e.2]
    · rfl
  rw [e0] at loop
  simp only [s114_0, s114_1, s114_2, s114_4, s114_7, s114_8, s114_11, s114_12, s114_13, s114_16, s114_19, s114_29, s114_30, hf_bd_v, hf_bd_n, hf_iv_i, hf_iv_l, hf_iv_a, hf_iv_n, hf_iv_2, z_lgl, z_lgg, z_lge, z_lgle, z_lgz, Option.getD_some, Option.isSome_some, ↓reduceIte, not_true_eq_false, not_false_eq_true, Option.toList_some, Option.toList_none, List.cons_append, List.nil_append, Nat.reduceAdd, Nat.add_assoc, ku_ne, ku_same, ne_eq, Nat.reduceEqDiff, reduceCtorEq, Nat.add_eq_left, Nat.left_eq_add, Nat.reduceEqDiff, q10, q_ne, true_or, or_true, hx_k h, hx_r0 h, hx_r1 h, hx_r2 h, hx_r3 h, hx_r4 h, hx_r5 h, h.1, c_needRange he, if_pos hm2, ha, nI_add, hlt, hle]
  exact loop
theorem c_stepX1 (h : Hx g) (he : hf_n g < 1000000) (hm : ¬ (1 ≤ i ∧ i ≤ 20)) : hf_rn 114 0 [some (.ref 0), some (.int i), none] [] g I J = some (.inr 1, hf_th g, I, J) := by
  simp only [s114_0, s114_1, s114_2, s114_4, s114_7, s114_8, s114_11, s114_12, s114_13, s114_16, s114_19, s114_29, s114_30, s114_31, s114_32, s114_33, s114_36, s114_37, s114_40, s114_43, s114_46, s114_47, s114_50, hf_bd_v, hf_bd_n, hf_iv_i, hf_iv_l, hf_iv_a, hf_iv_n, hf_iv_2, z_lgl, z_lgg, z_lge, z_lgle, z_lgz, Option.getD_some, Option.isSome_some, ↓reduceIte, not_true_eq_false, not_false_eq_true, Option.toList_some, Option.toList_none, List.cons_append, List.nil_append, Nat.reduceAdd, Nat.add_assoc, ku_ne, ku_same, ne_eq, Nat.reduceEqDiff, reduceCtorEq, Nat.add_eq_left, Nat.left_eq_add, Nat.reduceEqDiff, q10, q_ne, true_or, or_true, hx_k h, hx_r0 h, hx_r1 h, hx_r2 h, hx_r3 h, hx_r4 h, hx_r5 h, h.1, c_needRange he, if_neg hm, hf_bdx hh_114]
theorem c_stepX2 (h : Hx g) (he : hf_n g < 1000000) (ha : I 0 6 = nI a) (hm : 1 ≤ m ∧ m ≤ 20) (ham : 1000 < a + m) (ha2 : a ≤ 1000) : hf_rn 114 0 [some (.ref 0), some (.int (nI m)), none] [] g I J = some (.inr 2, hf_th g, I, J) := by
  have hm2 : (1 : Int32) ≤ nI m ∧ nI m ≤ 20 := ⟨by rw [show (1 : Int32) = nI 1 from rfl]; exact nI_le hm.1 (by omega), by rw [show (20 : Int32) = nI 20 from rfl]; exact nI_le hm.2 (by omega)⟩
  have hlt : ((1000 : Int32) < nI (a + m)) = True := by rw [show (1000 : Int32) = nI 1000 from rfl, z_il (by omega) (by omega)]; exact eq_true (by omega)
  have hle : (nI (a + m) ≤ 1000) = False := by rw [show (1000 : Int32) = nI 1000 from rfl, z_ii (by omega) (by omega)]; exact eq_false (by omega)
  simp only [s114_0, s114_1, s114_2, s114_4, s114_7, s114_8, s114_11, s114_12, s114_13, s114_16, s114_19, s114_29, s114_30, s114_31, s114_32, s114_33, s114_36, s114_37, s114_40, s114_43, s114_46, s114_47, s114_50, hf_bd_v, hf_bd_n, hf_iv_i, hf_iv_l, hf_iv_a, hf_iv_n, hf_iv_2, z_lgl, z_lgg, z_lge, z_lgle, z_lgz, Option.getD_some, Option.isSome_some, ↓reduceIte, not_true_eq_false, not_false_eq_true, Option.toList_some, Option.toList_none, List.cons_append, List.nil_append, Nat.reduceAdd, Nat.add_assoc, ku_ne, ku_same, ne_eq, Nat.reduceEqDiff, reduceCtorEq, Nat.add_eq_left, Nat.left_eq_add, Nat.reduceEqDiff, q10, q_ne, true_or, or_true, hx_k h, hx_r0 h, hx_r1 h, hx_r2 h, hx_r3 h, hx_r4 h, hx_r5 h, h.1, c_needRange he, if_pos hm2, ha, nI_add, hlt, hle]
end
