/-! SKY: what is seen -/
section
variable {g : hf_G} {I : hf_I} {J : hf_J} {P c k m n b : Nat} {u v w mx my sx sy : Int64} {i j co : Int32}
theorem c_skval (h : Sk g) (hk : k < 768) (hm : m < 4) : hf_rn 95 0 [some (.ref 257), some (.int (nI k)), some (.int (nI m))] [] g I J = some (.inl (some (.long (J (259 + 2 * m) k))), g, I, J) := by
  match m, hm with
  | 0, _ => simp only [s95_0, s95_1, s95_1_c0, s95_1_c1, s95_1_c2, s95_1_c3, s95_32, s95_33, s95_36, s95_37, s95_40, s95_41, s95_42, s95_45, s95_46, s95_49, s95_50, s95_51, s95_54, s95_55, s95_58, s95_59, s95_60, s95_63, s95_64, s95_67, s95_68, s95_69, s95_72, s95_73, s95_76, s95_77, s95_80, hf_bd_v, hf_bd_n, hf_iv_i, hf_iv_l, hf_iv_a, hf_iv_n, hf_iv_2, z_lgl, z_lgg, z_lge, z_lgle, z_lgz, Option.getD_some, Option.isSome_some, ↓reduceIte, not_true_eq_false, not_false_eq_true, Option.toList_some, Option.toList_none, List.cons_append, List.nil_append, Nat.reduceAdd, Nat.add_assoc, ku_ne, ku_same, ne_eq, Nat.reduceEqDiff, reduceCtorEq, Nat.add_eq_left, Nat.left_eq_add, Nat.reduceEqDiff, q10, q_ne, true_or, or_true, show nI 0 = 0 from rfl, sk_k h, sk_r0 h, sk_r1 h, sk_r2 h, sk_r3 h, sk_r4 h, sk_r5 h, (sk_rw258 h).1, c_get (sk_rw258 h) hk]
  | 1, _ => simp only [s95_0, s95_1, s95_1_c0, s95_1_c1, s95_1_c2, s95_1_c3, s95_32, s95_33, s95_36, s95_37, s95_40, s95_41, s95_42, s95_45, s95_46, s95_49, s95_50, s95_51, s95_54, s95_55, s95_58, s95_59, s95_60, s95_63, s95_64, s95_67, s95_68, s95_69, s95_72, s95_73, s95_76, s95_77, s95_80, hf_bd_v, hf_bd_n, hf_iv_i, hf_iv_l, hf_iv_a, hf_iv_n, hf_iv_2, z_lgl, z_lgg, z_lge, z_lgle, z_lgz, Option.getD_some, Option.isSome_some, ↓reduceIte, not_true_eq_false, not_false_eq_true, Option.toList_some, Option.toList_none, List.cons_append, List.nil_append, Nat.reduceAdd, Nat.add_assoc, ku_ne, ku_same, ne_eq, Nat.reduceEqDiff, reduceCtorEq, Nat.add_eq_left, Nat.left_eq_add, Nat.reduceEqDiff, q10, q_ne, true_or, or_true, show nI 1 = 1 from rfl, sk_k h, sk_r0 h, sk_r1 h, sk_r2 h, sk_r3 h, sk_r4 h, sk_r5 h, (sk_rw260 h).1, c_get (sk_rw260 h) hk]
  | 2, _ => simp only [s95_0, s95_1, s95_1_c0, s95_1_c1, s95_1_c2, s95_1_c3, s95_32, s95_33, s95_36, s95_37, s95_40, s95_41, s95_42, s95_45, s95_46, s95_49, s95_50, s95_51, s95_54, s95_55, s95_58, s95_59, s95_60, s95_63, s95_64, s95_67, s95_68, s95_69, s95_72, s95_73, s95_76, s95_77, s95_80, hf_bd_v, hf_bd_n, hf_iv_i, hf_iv_l, hf_iv_a, hf_iv_n, hf_iv_2, z_lgl, z_lgg, z_lge, z_lgle, z_lgz, Option.getD_some, Option.isSome_some, ↓reduceIte, not_true_eq_false, not_false_eq_true, Option.toList_some, Option.toList_none, List.cons_append, List.nil_append, Nat.reduceAdd, Nat.add_assoc, ku_ne, ku_same, ne_eq, Nat.reduceEqDiff, reduceCtorEq, Nat.add_eq_left, Nat.left_eq_add, Nat.reduceEqDiff, q10, q_ne, true_or, or_true, show nI 2 = 2 from rfl, sk_k h, sk_r0 h, sk_r1 h, sk_r2 h, sk_r3 h, sk_r4 h, sk_r5 h, (sk_rw262 h).1, c_get (sk_rw262 h) hk]
  | 3, _ => simp only [s95_0, s95_1, s95_1_c0, s95_1_c1, s95_1_c2, s95_1_c3, s95_32, s95_33, s95_36, s95_37, s95_40, s95_41, s95_42, s95_45, s95_46, s95_49, s95_50, s95_51, s95_54, s95_55, s95_58, s95_59, s95_60, s95_63, s95_64, s95_67, s95_68, s95_69, s95_72, s95_73, s95_76, s95_77, s95_80, hf_bd_v, hf_bd_n, hf_iv_i, hf_iv_l, hf_iv_a, hf_iv_n, hf_iv_2, z_lgl, z_lgg, z_lge, z_lgle, z_lgz, Option.getD_some, Option.isSome_some, ↓reduceIte, not_true_eq_false, not_false_eq_true, Option.toList_some, Option.toList_none, List.cons_append, List.nil_append, Nat.reduceAdd, Nat.add_assoc, ku_ne, ku_same, ne_eq, Nat.reduceEqDiff, reduceCtorEq, Nat.add_eq_left, Nat.left_eq_add, Nat.reduceEqDiff, q10, q_ne, true_or, or_true, show nI 3 = 3 from rfl, sk_k h, sk_r0 h, sk_r1 h, sk_r2 h, sk_r3 h, sk_r4 h, sk_r5 h, (sk_rw264 h).1, c_get (sk_rw264 h) hk]
theorem c_skval4 (h : Sk g) (hn : I 257 6 = nI n) (hn2 : n ≤ 768) (hT : ∀ k, k < n → 0 < J 267 k) (hk : k < 768) : hf_rn 95 0 [some (.ref 257), some (.int (nI k)), some (.int 4)] [] g I J = some (.inl (some (.long (gsF n (J 267) (J 265) (J 261) (J 257 11) (J 269) n k))), g, I, hf_w J 269 (gsF n (J 267) (J 265) (J 261) (J 257 11) (J 269) n)) := by
  simp only [s95_0, s95_1, s95_1_c0, s95_1_c1, s95_1_c2, s95_1_c3, s95_32, s95_33, s95_36, s95_37, s95_40, s95_41, s95_42, s95_45, s95_46, s95_49, s95_50, s95_51, s95_54, s95_55, s95_58, s95_59, s95_60, s95_63, s95_64, s95_67, s95_68, s95_69, s95_72, s95_73, s95_76, s95_77, s95_80, hf_bd_v, hf_bd_n, hf_iv_i, hf_iv_l, hf_iv_a, hf_iv_n, hf_iv_2, z_lgl, z_lgg, z_lge, z_lgle, z_lgz, Option.getD_some, Option.isSome_some, ↓reduceIte, not_true_eq_false, not_false_eq_true, Option.toList_some, Option.toList_none, List.cons_append, List.nil_append, Nat.reduceAdd, Nat.add_assoc, ku_ne, ku_same, ne_eq, Nat.reduceEqDiff, reduceCtorEq, Nat.add_eq_left, Nat.left_eq_add, Nat.reduceEqDiff, q10, q_ne, true_or, or_true, show ((4 : Int32).toInt < 0 ∨ 3 < (4 : Int32).toInt) = True from eq_true (by decide), h.1, c_give h hn hn2 hT, sk_k h, sk_r0 h, sk_r1 h, sk_r2 h, sk_r3 h, sk_r4 h, sk_r5 h, (sk_rw268 h).1, c_get (sk_rw268 h) hk, kw_row]
theorem ptL_n (v w : Int64) : ∃ p, p < 8 ∧ ptL v w = nI p := by
  unfold ptL
  repeat' split
  all_goals first
    | exact ⟨0, by decide, rfl⟩
    | exact ⟨1, by decide, rfl⟩
    | exact ⟨2, by decide, rfl⟩
    | exact ⟨3, by decide, rfl⟩
    | exact ⟨4, by decide, rfl⟩
    | exact ⟨5, by decide, rfl⟩
    | exact ⟨6, by decide, rfl⟩
    | exact ⟨7, by decide, rfl⟩
/-- it is at the depth of its picture and in no masked part -/
def seeL (dp : Int64) (mk : Int64) (x y : Int64) (b : Nat) : Bool :=
  decide ((nI b).toInt64 * dp ≤ rtL (sqL x y) 12 ∧ rtL (sqL x y) 12 < (nI b + 1).toInt64 * dp) && !btL mk (ptL x y).toNatClampNeg
def redL (x y sx sy : Int64) : Int64 := rtL (sqL x y) 12 + by1 (x * sx + y * sy) (if rtL (sqL x y) 12 = 0 then 16 else 16 * rtL (sqL x y) 12)
def putS (J : hf_J) (n : Nat) (co : Int32) (x y sx sy st : Int64) : hf_J :=
  hf_u (hf_u (hf_u (hf_u (hf_u J 259 n co.toInt64) 261 n (rtL (sqL x y) 12)) 263 n (redL x y sx sy)) 265 n (ptL x y).toInt64) 267 n st
theorem c_lookAt (h : Sk g) (hP : Pc g P) (hPs : P + 17 ≤ 257) (hk : k < 64) (hn : I 257 6 = nI n) (hn2 : n < 768)
    (hmx : hf_rn 86 0 [some (.ref (P + 1)), some (.int (nI k)), some (.int 1), none, none, none, none, none, none] [] g I J = some (.inl (some (.long mx)), g, I, J))
    (hmy : hf_rn 86 0 [some (.ref (P + 1)), some (.int (nI k)), some (.int 0), none, none, none, none, none, none] [] g I J = some (.inl (some (.long my)), g, I, J))
    (hsx : hf_rn 87 0 [some (.ref (P + 1)), some (.int (nI k)), some (.int 1)] [] g I J = some (.inl (some (.long sx)), g, I, J))
    (hsy : hf_rn 87 0 [some (.ref (P + 1)), some (.int (nI k)), some (.int 0)] [] g I J = some (.inl (some (.long sy)), g, I, J)) :
    hf_rn 93 0 [some (.ref 257), some (.ref P), some (.int (nI k)), some (.int co), some (.int (nI b)), none, none, none, none, none, none, none, none, none] [] g I J =
      if seeL (J 257 9) (I 257 10).toInt64 (wayL (J 257 7) mx) (wayL (J 257 8) my) b = true then some (.inl none, g, hf_u I 257 6 (nI (n + 1)), putS J n co (wayL (J 257 7) mx) (wayL (J 257 8) my) sx sy (J (P + 16) (4 * k + 2))) else some (.inl none, g, I, J) := by
  have hS := pc_sc1 hP
  generalize hx : wayL (J 257 7) mx = x
  generalize hy : wayL (J 257 8) my = y
  obtain ⟨p, p1, p2⟩ := ptL_n x y
  have hcl : (ptL x y).toNatClampNeg = p := by rw [p2, nI_clamp (by omega)]
  have n1 : P + 16 ≠ 259 := by omega
  have n2 : P + 16 ≠ 261 := by omega
  have n3 : P + 16 ≠ 263 := by omega
  have n4 : P + 16 ≠ 265 := by omega
  have hga := fun J => c_gasOf (I := I) (J := J) hP (show 4 * k + 2 < 256 by omega)
  rw [show nI 2 = 2 from rfl] at hga
  generalize hd : rtL (sqL x y) 12 = d
  by_cases c1 : d < (nI b).toInt64 * J 257 9
  · have hs : seeL (J 257 9) (I 257 10).toInt64 x y b = false := by rw [seeL, hd]; simp [L_nle c1]
    rw [hs]
    simp only [s93_0, s93_1, s93_4, s93_5, s93_8, s93_9, s93_10, s93_13, s93_16, s93_18, s93_19, s93_22, s93_23, s93_26, s93_27, s93_28, s93_31, s93_34, s93_36, s93_38, s93_40, s93_43, s93_45, s93_47, s93_49, s93_52, s93_54, s93_56, s93_58, s93_59, s93_60, s93_63, s93_64, s93_65, s93_68, s93_70, s93_72, s93_73, s93_74, s93_75, s93_76, s93_79, s93_80, s93_81, s93_84, s93_85, s93_88, s93_89, s93_91, s93_94, s93_97, s93_98, s93_100, s93_101, s93_104, s93_105, s93_106, s93_109, s93_110, s93_112, s93_113, s93_116, s93_117, s93_118, s93_121, s93_122, s93_123, s93_125, s93_126, s93_129, s93_130, s93_133, s93_134, s93_135, s93_138, s93_139, s93_142, s93_143, s93_146, s93_148, s93_151, s93_152, s93_155, s93_156, s93_159, s93_161, s93_163, s93_165, s93_166, s93_167, s93_170, s93_173, s93_176, s93_179, s93_181, s93_182, s93_185, s93_186, s93_189, s93_190, s93_193, s93_194, s93_197, s93_199, s93_200, s93_203, s93_204, s93_207, s93_208, s93_211, s93_212, s93_213, s93_214, s93_217, s93_220, s93_221, s93_222, s93_225, s93_226, s93_227, s93_230, hf_bd_v, hf_bd_n, hf_iv_i, hf_iv_l, hf_iv_a, hf_iv_n, hf_iv_2, z_lgl, z_lgg, z_lge, z_lgle, z_lgz, Option.getD_some, Option.isSome_some, ↓reduceIte, not_true_eq_false, not_false_eq_true, Option.toList_some, Option.toList_none, List.cons_append, List.nil_append, Nat.reduceAdd, Nat.add_assoc, ku_ne, ku_same, ne_eq, Nat.reduceEqDiff, reduceCtorEq, Nat.add_eq_left, Nat.left_eq_add, Nat.reduceEqDiff, q10, q_ne, true_or, or_true, sk_k h, sk_r0 h, sk_r1 h, sk_r2 h, sk_r3 h, sk_r4 h, sk_r5 h, pc_k hP, pc_r0 hP, pc_r1 hP, pc_r2 hP, hS.1, hmx, hmy, hx, hy, hd, c_way, c_far, c_partOf, c1, Bool.false_eq_true]
  · have c1' := L_le c1
    by_cases c2 : d < (nI b + 1).toInt64 * J 257 9
    · have c2' := L_nle c2
      have c2a : ¬ (nI b + 1).toInt64 * J 257 9 ≤ d := c2'
      cases hb : btL (I 257 10).toInt64 p
      · have hs : seeL (J 257 9) (I 257 10).toInt64 x y b = true := by rw [seeL, hd, hcl, hb]; simp [c1', c2]
        rw [hs]
        sorry
      · have hs : seeL (J 257 9) (I 257 10).toInt64 x y b = false := by rw [seeL, hd, hcl, hb]; simp
        rw [hs]
        simp only [s93_0, s93_1, s93_4, s93_5, s93_8, s93_9, s93_10, s93_13, s93_16, s93_18, s93_19, s93_22, s93_23, s93_26, s93_27, s93_28, s93_31, s93_34, s93_36, s93_38, s93_40, s93_43, s93_45, s93_47, s93_49, s93_52, s93_54, s93_56, s93_58, s93_59, s93_60, s93_63, s93_64, s93_65, s93_68, s93_70, s93_72, s93_73, s93_74, s93_75, s93_76, s93_79, s93_80, s93_81, s93_84, s93_85, s93_88, s93_89, s93_91, s93_94, s93_97, s93_98, s93_100, s93_101, s93_104, s93_105, s93_106, s93_109, s93_110, s93_112, s93_113, s93_116, s93_117, s93_118, s93_121, s93_122, s93_123, s93_125, s93_126, s93_129, s93_130, s93_133, s93_134, s93_135, s93_138, s93_139, s93_142, s93_143, s93_146, s93_148, s93_151, s93_152, s93_155, s93_156, s93_159, s93_161, s93_163, s93_165, s93_166, s93_167, s93_170, s93_173, s93_176, s93_179, s93_181, s93_182, s93_185, s93_186, s93_189, s93_190, s93_193, s93_194, s93_197, s93_199, s93_200, s93_203, s93_204, s93_207, s93_208, s93_211, s93_212, s93_213, s93_214, s93_217, s93_220, s93_221, s93_222, s93_225, s93_226, s93_227, s93_230, hf_bd_v, hf_bd_n, hf_iv_i, hf_iv_l, hf_iv_a, hf_iv_n, hf_iv_2, z_lgl, z_lgg, z_lge, z_lgle, z_lgz, Option.getD_some, Option.isSome_some, ↓reduceIte, not_true_eq_false, not_false_eq_true, Option.toList_some, Option.toList_none, List.cons_append, List.nil_append, Nat.reduceAdd, Nat.add_assoc, ku_ne, ku_same, ne_eq, Nat.reduceEqDiff, reduceCtorEq, Nat.add_eq_left, Nat.left_eq_add, Nat.reduceEqDiff, q10, q_ne, true_or, or_true, sk_k h, sk_r0 h, sk_r1 h, sk_r2 h, sk_r3 h, sk_r4 h, sk_r5 h, pc_k hP, pc_r0 hP, pc_r1 hP, pc_r2 hP, hS.1, hmx, hmy, hx, hy, hd, c_way, c_far, c_partOf, c1, c2, c2a, p2, c_has (show p < 64 by omega), hb, Bool.false_eq_true]
    · have c2' := L_le c2
      have hs : seeL (J 257 9) (I 257 10).toInt64 x y b = false := by rw [seeL, hd]; simp [c2]
      rw [hs]
      simp only [s93_0, s93_1, s93_4, s93_5, s93_8, s93_9, s93_10, s93_13, s93_16, s93_18, s93_19, s93_22, s93_23, s93_26, s93_27, s93_28, s93_31, s93_34, s93_36, s93_38, s93_40, s93_43, s93_45, s93_47, s93_49, s93_52, s93_54, s93_56, s93_58, s93_59, s93_60, s93_63, s93_64, s93_65, s93_68, s93_70, s93_72, s93_73, s93_74, s93_75, s93_76, s93_79, s93_80, s93_81, s93_84, s93_85, s93_88, s93_89, s93_91, s93_94, s93_97, s93_98, s93_100, s93_101, s93_104, s93_105, s93_106, s93_109, s93_110, s93_112, s93_113, s93_116, s93_117, s93_118, s93_121, s93_122, s93_123, s93_125, s93_126, s93_129, s93_130, s93_133, s93_134, s93_135, s93_138, s93_139, s93_142, s93_143, s93_146, s93_148, s93_151, s93_152, s93_155, s93_156, s93_159, s93_161, s93_163, s93_165, s93_166, s93_167, s93_170, s93_173, s93_176, s93_179, s93_181, s93_182, s93_185, s93_186, s93_189, s93_190, s93_193, s93_194, s93_197, s93_199, s93_200, s93_203, s93_204, s93_207, s93_208, s93_211, s93_212, s93_213, s93_214, s93_217, s93_220, s93_221, s93_222, s93_225, s93_226, s93_227, s93_230, hf_bd_v, hf_bd_n, hf_iv_i, hf_iv_l, hf_iv_a, hf_iv_n, hf_iv_2, z_lgl, z_lgg, z_lge, z_lgle, z_lgz, Option.getD_some, Option.isSome_some, ↓reduceIte, not_true_eq_false, not_false_eq_true, Option.toList_some, Option.toList_none, List.cons_append, List.nil_append, Nat.reduceAdd, Nat.add_assoc, ku_ne, ku_same, ne_eq, Nat.reduceEqDiff, reduceCtorEq, Nat.add_eq_left, Nat.left_eq_add, Nat.reduceEqDiff, q10, q_ne, true_or, or_true, sk_k h, sk_r0 h, sk_r1 h, sk_r2 h, sk_r3 h, sk_r4 h, sk_r5 h, pc_k hP, pc_r0 hP, pc_r1 hP, pc_r2 hP, hS.1, hmx, hmy, hx, hy, hd, c_way, c_far, c_partOf, c1, c2', Bool.false_eq_true]
end
