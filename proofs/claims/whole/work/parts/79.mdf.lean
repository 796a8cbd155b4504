/-! THE MODEL: trees counted; parts of the sky -/
def isB (nx : Nat → Nat → Option (Nat × Nat)) (B : Nat → Int32) (m k : Nat) : Bool := match nx m k with
  | none => false
  | some (j, x) => decide (¬ B (64 * j + x) = 0)
def ctI (nx : Nat → Nat → Option (Nat × Nat)) (al : Bool) (m : Nat) (q : (Nat → Int32) × Int32) (t : Nat) : (Nat → Int32) × Int32 := it t q fun k q => (up q.1 (64 * m + k) (bI (isB nx q.1 m k && al)), q.2 + bI (isB nx q.1 m k))
def cnF (nx : Nat → Nat → Option (Nat × Nat)) (cn : Nat → Nat) (al : Bool) : Nat → (Nat → Int32) × Int32 → Int32
  | 0, q => q.2
  | m + 1, q => cnF nx cn al m (ctI nx al m q (cn m))
section
variable {g : hf_G} {I : hf_I} {J : hf_J} {a b c k l m n s p q cl P : Nat} {u v w : Int64} {i j x y : Int32} {S B F H K : Nat → Int32} {cn : Nat → Nat} {Q : Q4}
def finC (I : hf_I) (g : hf_G) (J : hf_J) (w : Int32) (r : Option hf_R) : Prop := ∃ H B, s64 (I 280) H ∧ r = some (.inl (some (.int w)), g, w2 I 280 282 H B, J)
theorem m_nextC (h : Md g) (hM : Mdp I c P cn) (hp : p < P) (hF : s64 (I 280) S) : ∃ H, s64 (I 280) H ∧ hf_rn 198 0 [some (.ref 270), some (.int (nI p)), some (.int (nI k)), none, none] [] g (w2 I 280 282 S B) J = some (.inl (some (.int (cdI (nxM I P c p k)))), g, w2 I 280 282 H B, J) := by
  obtain ⟨H, h1, h2⟩ := m_nextOf (J := J) (k := k) h (mdp_fr (I2 := w2 I 280 282 S B) hM rfl rfl rfl) hp
  rw [w2_a (by decide)] at h1
  refine ⟨H, s64_t hF h1, ?_⟩
  have e : hf_w (w2 I 280 282 S B) 280 H = w2 I 280 282 H B := by
    funext z
    by_cases e : z = 280
    · subst e; rw [kw_row, w2_a (by decide)]
    · rw [kw_ne e]
      by_cases e2 : z = 282
      · subst e2; rw [w2_b, w2_b]
      · rw [w2_n e e2, w2_n e e2]
  rw [h2, e, w2_a (by decide), w2_n (by decide) (by decide), nxO_s hF]
  rfl
theorem m_counts (h : Md g) (hM : Mdp I c P cn) (hp : p < P) (hk : k < 64) (al : Bool) : finC I g J (cnF (nxM I P c) cn al p ((fun j => if j < 768 then bI (decide (j = 64 * p + k)) else I 282 j), bI al)) (hf_rn 204 0 [some (.ref 270), some (.int (nI p)), some (.int (nI k)), some (.int (bI al)), none, none, none, none, none] [] g I J) := by
  obtain ⟨hc, hc2, hP1, hP2, hM5, hM6⟩ := id hM
  have h1 : ∀ S B : Nat → Int32, w2 I 280 282 S B 270 = I 270 := fun S B => rfl
  have h2 : ∀ S B : Nat → Int32, w2 I 280 282 S B 276 = I 276 := fun S B => rfl
  have lt0 : ∀ a : Int, -100 ≤ a → a ≤ 100 → (iZ a < 0) = (a < 0) := fun a x1 x2 => by rw [show (0 : Int32) = iZ 0 from rfl, iZ_lt (iRs (by omega) (by omega)) (iRs (by omega) (by omega))]
  have inner : ∀ (w : Int32) (m : Nat) (q : (Nat → Int32) × Int32), m < P →
      (∀ S l6 l7 l8, s64 (I 280) S → finC I g J w (hf_rn 204 56 [some (.ref 270), some (.int (nI p)), some (.int (nI k)), some (.int (bI al)), some (.int (ctI (nxM I P c) al m q (cn m)).2), some (.int (iZ ((m : Int) - 1))), l6, l7, l8] [] g (w2 I 280 282 S (ctI (nxM I P c) al m q (cn m)).1) J)) →
      ∀ S l7 l8, s64 (I 280) S → finC I g J w (hf_rn 204 64 [some (.ref 270), some (.int (nI p)), some (.int (nI k)), some (.int (bI al)), some (.int q.2), some (.int (nI m)), some (.int (nI 0)), l7, l8] [] g (w2 I 280 282 S q.1) J) := by
    intro w m q hm hR
    obtain ⟨h64, hha⟩ := hM5 m hm
    refine down (n := cn m) (s := q) (f := fun k q => (up q.1 (64 * m + k) (bI (isB (nxM I P c) q.1 m k && al)), q.2 + bI (isB (nxM I P c) q.1 m k))) (fun t q => ∀ S l7 l8, s64 (I 280) S → finC I g J w (hf_rn 204 64 [some (.ref 270), some (.int (nI p)), some (.int (nI k)), some (.int (bI al)), some (.int q.2), some (.int (nI m)), some (.int (nI t)), l7, l8] [] g (w2 I 280 282 S q.1) J)) ?_ ?_
    · intro S l7 l8 hS
      simp only [s204_64, s204_66, s204_67, s204_70, s204_72, s204_73, s204_76, s204_77, s204_79, s204_81, s204_84, s204_86, s204_88, s204_89, s204_92, s204_93, s204_96, s204_98, s204_100, s204_102, s204_103, s204_104, s204_106, s204_108, s204_109, s204_110, s204_111, s204_114, s204_115, s204_118, s204_119, s204_121, s204_122, s204_125, s204_127, s204_129, s204_130, s204_132, s204_133, s204_135, s204_138, s204_139, s204_142, s204_143, s204_146, s204_147, s204_148, s204_150, s204_152, s204_155, s204_156, s204_159, s204_160, s204_161, s204_163, s204_166, s204_169, hf_bd_v, hf_bd_n, hf_iv_i, hf_iv_l, hf_iv_a, hf_iv_n, hf_iv_2, z_lgl, z_lgg, z_lge, z_lgle, z_lgz, Option.getD_some, Option.isSome_some, ↓reduceIte, not_true_eq_false, not_false_eq_true, Option.toList_some, Option.toList_none, List.cons_append, List.nil_append, Nat.reduceAdd, Nat.add_assoc, ku_ne, ku_same, ne_eq, Nat.reduceEqDiff, reduceCtorEq, Nat.add_eq_left, Nat.left_eq_add, Nat.reduceEqDiff, q10, q_ne, true_or, or_true, md_k h, md_r16 h, md_k271 h, md_r17 h, md_k272 h, md_r18 h, md_k273 h, md_r19 h, md_k274 h, md_r20 h, md_k275 h, md_r21 h, md_k276 h, md_r22 h, md_k277 h, md_r23 h, md_k278 h, md_r24 h, md_k279 h, md_r25 h, md_k280 h, md_r26 h, md_k281 h, md_r27 h, md_k282 h, md_r28 h, md_k283 h, md_r29 h, md_k284 h, md_r30 h, md_k285 h, md_r31 h, md_k286 h, md_r33 h, md_k287 h, md_r34 h, md_k288 h, md_r35 h, md_k289 h, md_r36 h, md_k290 h, md_r37 h, md_k291 h, h2, hha, z_in (show m < 2147483648 by omega), z_cl (show m < 2147483648 by omega), show m < 13 by omega, decide_true, z_ii (show cn m < 2147483648 by omega) (show cn m < 2147483648 by omega), Nat.le_refl]
      rw [s204_172, show nI m + -1 = iZ ((m : Int) - 1) from by rw [nI_iZ, iZ_d]]
      exact hR S _ _ _ hS
    · intro t q ht hx ih S l7 l8 hS
      have hk1 : ¬ cn m ≤ t := by omega
      have h7 : 64 * m + t < 768 := by omega
      obtain ⟨H, x1, x2⟩ := m_nextC (J := J) (k := t) (B := q.1) h hM hm hS
      have hlt := @nxO_lt (I 275) (I 280) P c m t
      cases hn : nxM I P c m t with
      | none =>
        rw [hn] at x2
        have hb : isB (nxM I P c) q.1 m t = false := by rw [isB, hn]
        rw [hb] at ih
        simp only [s204_64, s204_66, s204_67, s204_70, s204_72, s204_73, s204_76, s204_77, s204_79, s204_81, s204_84, s204_86, s204_88, s204_89, s204_92, s204_93, s204_96, s204_98, s204_100, s204_102, s204_103, s204_104, s204_106, s204_108, s204_109, s204_110, s204_111, s204_114, s204_115, s204_118, s204_119, s204_121, s204_122, s204_125, s204_127, s204_129, s204_130, s204_132, s204_133, s204_135, s204_138, s204_139, s204_142, s204_143, s204_146, s204_147, s204_148, s204_150, s204_152, s204_155, s204_156, s204_159, s204_160, s204_161, s204_163, hf_bd_v, hf_bd_n, hf_iv_i, hf_iv_l, hf_iv_a, hf_iv_n, hf_iv_2, z_lgl, z_lgg, z_lge, z_lgle, z_lgz, Option.getD_some, Option.isSome_some, ↓reduceIte, not_true_eq_false, not_false_eq_true, Option.toList_some, Option.toList_none, List.cons_append, List.nil_append, Nat.reduceAdd, Nat.add_assoc, ku_ne, ku_same, ne_eq, Nat.reduceEqDiff, reduceCtorEq, Nat.add_eq_left, Nat.left_eq_add, Nat.reduceEqDiff, q10, q_ne, true_or, or_true, md_k h, md_r16 h, md_k271 h, md_r17 h, md_k272 h, md_r18 h, md_k273 h, md_r19 h, md_k274 h, md_r20 h, md_k275 h, md_r21 h, md_k276 h, md_r22 h, md_k277 h, md_r23 h, md_k278 h, md_r24 h, md_k279 h, md_r25 h, md_k280 h, md_r26 h, md_k281 h, md_r27 h, md_k282 h, md_r28 h, md_k283 h, md_r29 h, md_k284 h, md_r30 h, md_k285 h, md_r31 h, md_k286 h, md_r33 h, md_k287 h, md_r34 h, md_k288 h, md_r35 h, md_k289 h, md_r36 h, md_k290 h, md_r37 h, md_k291 h, h.1, h2, hha, z_in (show m < 2147483648 by omega), z_cl (show m < 2147483648 by omega), show m < 13 by omega, decide_true, z_ii (show cn m < 2147483648 by omega) (show t < 2147483648 by omega), hk1, z_1, ix64, x2, cdI, z_in (show 64 * m + t < 2147483648 by omega), z_cl (show 64 * m + t < 2147483648 by omega), h7, w2_ub]
        rw [s204_166]
        exact ih H _ _ x1
      | some jx =>
        obtain ⟨j, z⟩ := jx
        obtain ⟨p1, p2, p3⟩ := hlt hP2 hn
        rw [hn] at x2
        have hnl : ¬ nI (100 * j + z) = -1 := by rw [nI_iZ, show (-1 : Int32) = iZ (-1) from rfl, iZ_eq (iRs (by omega) (by omega)) (iRs (by omega) (by omega))]; omega
        have h8 : 64 * j + z < 768 := by omega
        by_cases c1 : q.1 (64 * j + z) = 0
        · have hb : isB (nxM I P c) q.1 m t = false := by rw [isB, hn]; simp [c1]
          rw [hb] at ih
          simp only [s204_64, s204_66, s204_67, s204_70, s204_72, s204_73, s204_76, s204_77, s204_79, s204_81, s204_84, s204_86, s204_88, s204_89, s204_92, s204_93, s204_96, s204_98, s204_100, s204_102, s204_103, s204_104, s204_106, s204_108, s204_109, s204_110, s204_111, s204_114, s204_115, s204_118, s204_119, s204_121, s204_122, s204_125, s204_127, s204_129, s204_130, s204_132, s204_133, s204_135, s204_138, s204_139, s204_142, s204_143, s204_146, s204_147, s204_148, s204_150, s204_152, s204_155, s204_156, s204_159, s204_160, s204_161, s204_163, hf_bd_v, hf_bd_n, hf_iv_i, hf_iv_l, hf_iv_a, hf_iv_n, hf_iv_2, z_lgl, z_lgg, z_lge, z_lgle, z_lgz, Option.getD_some, Option.isSome_some, ↓reduceIte, not_true_eq_false, not_false_eq_true, Option.toList_some, Option.toList_none, List.cons_append, List.nil_append, Nat.reduceAdd, Nat.add_assoc, ku_ne, ku_same, ne_eq, Nat.reduceEqDiff, reduceCtorEq, Nat.add_eq_left, Nat.left_eq_add, Nat.reduceEqDiff, q10, q_ne, true_or, or_true, md_k h, md_r16 h, md_k271 h, md_r17 h, md_k272 h, md_r18 h, md_k273 h, md_r19 h, md_k274 h, md_r20 h, md_k275 h, md_r21 h, md_k276 h, md_r22 h, md_k277 h, md_r23 h, md_k278 h, md_r24 h, md_k279 h, md_r25 h, md_k280 h, md_r26 h, md_k281 h, md_r27 h, md_k282 h, md_r28 h, md_k283 h, md_r29 h, md_k284 h, md_r30 h, md_k285 h, md_r31 h, md_k286 h, md_r33 h, md_k287 h, md_r34 h, md_k288 h, md_r35 h, md_k289 h, md_r36 h, md_k290 h, md_r37 h, md_k291 h, h.1, h2, hha, z_in (show m < 2147483648 by omega), z_cl (show m < 2147483648 by omega), show m < 13 by omega, decide_true, z_ii (show cn m < 2147483648 by omega) (show t < 2147483648 by omega), hk1, z_1, ix64, x2, cdI, hnl, qi100, cdv (show z < 100 by omega) (show j < 1000 by omega), crm (show z < 100 by omega) (show j < 1000 by omega), z_in (show 64 * j + z < 2147483648 by omega), z_cl (show 64 * j + z < 2147483648 by omega), h8, w2_b, c1, z_in (show 64 * m + t < 2147483648 by omega), z_cl (show 64 * m + t < 2147483648 by omega), h7, w2_ub]
          rw [s204_166]
          exact ih H _ _ x1
        · have hb : isB (nxM I P c) q.1 m t = true := by rw [isB, hn]; simp [c1]
          rw [hb] at ih
          cases al
          · simp only [s204_64, s204_66, s204_67, s204_70, s204_72, s204_73, s204_76, s204_77, s204_79, s204_81, s204_84, s204_86, s204_88, s204_89, s204_92, s204_93, s204_96, s204_98, s204_100, s204_102, s204_103, s204_104, s204_106, s204_108, s204_109, s204_110, s204_111, s204_114, s204_115, s204_118, s204_119, s204_121, s204_122, s204_125, s204_127, s204_129, s204_130, s204_132, s204_133, s204_135, s204_138, s204_139, s204_142, s204_143, s204_146, s204_147, s204_148, s204_150, s204_152, s204_155, s204_156, s204_159, s204_160, s204_161, s204_163, hf_bd_v, hf_bd_n, hf_iv_i, hf_iv_l, hf_iv_a, hf_iv_n, hf_iv_2, z_lgl, z_lgg, z_lge, z_lgle, z_lgz, Option.getD_some, Option.isSome_some, ↓reduceIte, not_true_eq_false, not_false_eq_true, Option.toList_some, Option.toList_none, List.cons_append, List.nil_append, Nat.reduceAdd, Nat.add_assoc, ku_ne, ku_same, ne_eq, Nat.reduceEqDiff, reduceCtorEq, Nat.add_eq_left, Nat.left_eq_add, Nat.reduceEqDiff, q10, q_ne, true_or, or_true, md_k h, md_r16 h, md_k271 h, md_r17 h, md_k272 h, md_r18 h, md_k273 h, md_r19 h, md_k274 h, md_r20 h, md_k275 h, md_r21 h, md_k276 h, md_r22 h, md_k277 h, md_r23 h, md_k278 h, md_r24 h, md_k279 h, md_r25 h, md_k280 h, md_r26 h, md_k281 h, md_r27 h, md_k282 h, md_r28 h, md_k283 h, md_r29 h, md_k284 h, md_r30 h, md_k285 h, md_r31 h, md_k286 h, md_r33 h, md_k287 h, md_r34 h, md_k288 h, md_r35 h, md_k289 h, md_r36 h, md_k290 h, md_r37 h, md_k291 h, h.1, h2, hha, z_in (show m < 2147483648 by omega), z_cl (show m < 2147483648 by omega), show m < 13 by omega, decide_true, z_ii (show cn m < 2147483648 by omega) (show t < 2147483648 by omega), hk1, z_1, ix64, x2, cdI, hnl, qi100, cdv (show z < 100 by omega) (show j < 1000 by omega), crm (show z < 100 by omega) (show j < 1000 by omega), z_in (show 64 * j + z < 2147483648 by omega), z_cl (show 64 * j + z < 2147483648 by omega), h8, w2_b, c1, z_in (show 64 * m + t < 2147483648 by omega), z_cl (show 64 * m + t < 2147483648 by omega), h7, w2_ub, bI_f]
            rw [s204_166]
            exact ih H _ _ x1
          · simp only [s204_64, s204_66, s204_67, s204_70, s204_72, s204_73, s204_76, s204_77, s204_79, s204_81, s204_84, s204_86, s204_88, s204_89, s204_92, s204_93, s204_96, s204_98, s204_100, s204_102, s204_103, s204_104, s204_106, s204_108, s204_109, s204_110, s204_111, s204_114, s204_115, s204_118, s204_119, s204_121, s204_122, s204_125, s204_127, s204_129, s204_130, s204_132, s204_133, s204_135, s204_138, s204_139, s204_142, s204_143, s204_146, s204_147, s204_148, s204_150, s204_152, s204_155, s204_156, s204_159, s204_160, s204_161, s204_163, hf_bd_v, hf_bd_n, hf_iv_i, hf_iv_l, hf_iv_a, hf_iv_n, hf_iv_2, z_lgl, z_lgg, z_lge, z_lgle, z_lgz, Option.getD_some, Option.isSome_some, ↓reduceIte, not_true_eq_false, not_false_eq_true, Option.toList_some, Option.toList_none, List.cons_append, List.nil_append, Nat.reduceAdd, Nat.add_assoc, ku_ne, ku_same, ne_eq, Nat.reduceEqDiff, reduceCtorEq, Nat.add_eq_left, Nat.left_eq_add, Nat.reduceEqDiff, q10, q_ne, true_or, or_true, md_k h, md_r16 h, md_k271 h, md_r17 h, md_k272 h, md_r18 h, md_k273 h, md_r19 h, md_k274 h, md_r20 h, md_k275 h, md_r21 h, md_k276 h, md_r22 h, md_k277 h, md_r23 h, md_k278 h, md_r24 h, md_k279 h, md_r25 h, md_k280 h, md_r26 h, md_k281 h, md_r27 h, md_k282 h, md_r28 h, md_k283 h, md_r29 h, md_k284 h, md_r30 h, md_k285 h, md_r31 h, md_k286 h, md_r33 h, md_k287 h, md_r34 h, md_k288 h, md_r35 h, md_k289 h, md_r36 h, md_k290 h, md_r37 h, md_k291 h, h.1, h2, hha, z_in (show m < 2147483648 by omega), z_cl (show m < 2147483648 by omega), show m < 13 by omega, decide_true, z_ii (show cn m < 2147483648 by omega) (show t < 2147483648 by omega), hk1, z_1, ix64, x2, cdI, hnl, qi100, cdv (show z < 100 by omega) (show j < 1000 by omega), crm (show z < 100 by omega) (show j < 1000 by omega), z_in (show 64 * j + z < 2147483648 by omega), z_cl (show 64 * j + z < 2147483648 by omega), h8, w2_b, c1, z_in (show 64 * m + t < 2147483648 by omega), z_cl (show 64 * m + t < 2147483648 by omega), h7, w2_ub, bI_t]
            rw [s204_166]
            exact ih H _ _ x1
  have outer : ∀ (m : Nat) (q : (Nat → Int32) × Int32) (S : Nat → Int32) l6 l7 l8, m ≤ P → s64 (I 280) S → finC I g J (cnF (nxM I P c) cn al m q) (hf_rn 204 56 [some (.ref 270), some (.int (nI p)), some (.int (nI k)), some (.int (bI al)), some (.int q.2), some (.int (iZ ((m : Int) - 1))), l6, l7, l8] [] g (w2 I 280 282 S q.1) J) := by
    intro m
    induction m with
    | zero =>
      intro q S l6 l7 l8 _ hS
      have e : (((0 : Nat) : Int) - 1 < 0) := by omega
      simp only [s204_56, s204_58, s204_61, s204_62, s204_175, s204_177, hf_bd_v, hf_bd_n, hf_iv_i, hf_iv_l, hf_iv_a, hf_iv_n, hf_iv_2, z_lgl, z_lgg, z_lge, z_lgle, z_lgz, Option.getD_some, Option.isSome_some, ↓reduceIte, not_true_eq_false, not_false_eq_true, Option.toList_some, Option.toList_none, List.cons_append, List.nil_append, Nat.reduceAdd, Nat.add_assoc, ku_ne, ku_same, ne_eq, Nat.reduceEqDiff, reduceCtorEq, Nat.add_eq_left, Nat.left_eq_add, Nat.reduceEqDiff, q10, q_ne, true_or, or_true, lt0 (((0 : Nat) : Int) - 1) (by omega) (by omega), e]
      exact ⟨S, q.1, hS, rfl⟩
    | succ m ih =>
      intro q S l6 l7 l8 hm hS
      have e : ¬ (((m + 1 : Nat) : Int) - 1 < 0) := by omega
      have e2 : iZ (((m + 1 : Nat) : Int) - 1) = nI m := by rw [nI_iZ]; congr 1; omega
      simp only [s204_56, s204_58, s204_61, s204_62, hf_bd_v, hf_bd_n, hf_iv_i, hf_iv_l, hf_iv_a, hf_iv_n, hf_iv_2, z_lgl, z_lgg, z_lge, z_lgle, z_lgz, Option.getD_some, Option.isSome_some, ↓reduceIte, not_true_eq_false, not_false_eq_true, Option.toList_some, Option.toList_none, List.cons_append, List.nil_append, Nat.reduceAdd, Nat.add_assoc, ku_ne, ku_same, ne_eq, Nat.reduceEqDiff, reduceCtorEq, Nat.add_eq_left, Nat.left_eq_add, Nat.reduceEqDiff, q10, q_ne, true_or, or_true, lt0 (((m + 1 : Nat) : Int) - 1) (by omega) (by omega), e]
      rw [e2]
      exact inner _ m q (by omega) (fun S l6 l7 l8 hS => ih _ S l6 l7 l8 (by omega) hS) S l7 l8 hS
  have loop : finC I g J (cnF (nxM I P c) cn al p ((fun j => if j < 768 then bI (decide (j = 64 * p + k)) else I 282 j), bI al)) (hf_rn 204 3 [some (.ref 270), some (.int (nI p)), some (.int (nI k)), some (.int (bI al)), some (.int (nI 0)), none, none, none, none] [] g (w2 I 280 282 (I 280) (fun j => if j < 0 then bI (decide (j = 64 * p + k)) else I 282 j)) J) := by
    refine down (n := 768) (s := ()) (f := fun _ _ => ()) (fun t _ => finC I g J (cnF (nxM I P c) cn al p ((fun j => if j < 768 then bI (decide (j = 64 * p + k)) else I 282 j), bI al)) (hf_rn 204 3 [some (.ref 270), some (.int (nI p)), some (.int (nI k)), some (.int (bI al)), some (.int (nI t)), none, none, none, none] [] g (w2 I 280 282 (I 280) (fun j => if j < t then bI (decide (j = 64 * p + k)) else I 282 j)) J)) ?_ ?_
    · have h64 : (768 : Int32) ≤ nI 768 := by decide
      have key := outer p ((fun j => if j < 768 then bI (decide (j = 64 * p + k)) else I 282 j), bI al) (I 280) none none none (by omega) s64_r
      cases al
      · simp only [s204_3, s204_5, s204_8, s204_11, s204_12, s204_15, s204_17, s204_19, s204_21, s204_22, s204_23, s204_24, s204_25, s204_28, s204_29, s204_32, s204_33, s204_34, s204_40, s204_41, s204_44, s204_45, s204_48, s204_49, s204_51, s204_52, s204_53, s204_54, hf_bd_v, hf_bd_n, hf_iv_i, hf_iv_l, hf_iv_a, hf_iv_n, hf_iv_2, z_lgl, z_lgg, z_lge, z_lgle, z_lgz, Option.getD_some, Option.isSome_some, ↓reduceIte, not_true_eq_false, not_false_eq_true, Option.toList_some, Option.toList_none, List.cons_append, List.nil_append, Nat.reduceAdd, Nat.add_assoc, ku_ne, ku_same, ne_eq, Nat.reduceEqDiff, reduceCtorEq, Nat.add_eq_left, Nat.left_eq_add, Nat.reduceEqDiff, q10, q_ne, true_or, or_true, h64, nI_m1, bI_f]
        exact key
      · simp only [s204_3, s204_5, s204_8, s204_11, s204_12, s204_15, s204_17, s204_19, s204_21, s204_22, s204_23, s204_24, s204_25, s204_28, s204_29, s204_32, s204_33, s204_34, s204_40, s204_41, s204_44, s204_45, s204_48, s204_49, s204_51, s204_52, s204_53, s204_54, hf_bd_v, hf_bd_n, hf_iv_i, hf_iv_l, hf_iv_a, hf_iv_n, hf_iv_2, z_lgl, z_lgg, z_lge, z_lgle, z_lgz, Option.getD_some, Option.isSome_some, ↓reduceIte, not_true_eq_false, not_false_eq_true, Option.toList_some, Option.toList_none, List.cons_append, List.nil_append, Nat.reduceAdd, Nat.add_assoc, ku_ne, ku_same, ne_eq, Nat.reduceEqDiff, reduceCtorEq, Nat.add_eq_left, Nat.left_eq_add, Nat.reduceEqDiff, q10, q_ne, true_or, or_true, h64, nI_m1, bI_t]
        exact key
    · intro t _ ht _ ih
      have h64 : ((768 : Int32) ≤ nI t) = (768 ≤ t) := z_ii (a := 768) (by decide) (by omega)
      have hk1 : ¬ 768 ≤ t := by omega
      have e : ∀ b, b = bI (decide (t = 64 * p + k)) → up (fun j => if j < t then bI (decide (j = 64 * p + k)) else I 282 j) t b = fun j => if j < t + 1 then bI (decide (j = 64 * p + k)) else I 282 j := by
        intro b hb
        funext y
        unfold up
        by_cases h1 : y = t
        · subst h1; simp [hb]
        · simp only [h1, if_false, show (y < t + 1) = (y < t) from by apply propext; omega]
      have hq : (nI t = nI (64 * p + k)) = (t = 64 * p + k) := z_ie (by omega) (by omega)
      by_cases c1 : t = 64 * p + k
      · have c1e := eq_true c1
        simp only [s204_3, s204_5, s204_8, s204_11, s204_12, s204_15, s204_17, s204_19, s204_21, s204_22, s204_23, s204_24, s204_25, s204_28, s204_29, s204_32, s204_33, s204_34, hf_bd_v, hf_bd_n, hf_iv_i, hf_iv_l, hf_iv_a, hf_iv_n, hf_iv_2, z_lgl, z_lgg, z_lge, z_lgle, z_lgz, Option.getD_some, Option.isSome_some, ↓reduceIte, not_true_eq_false, not_false_eq_true, Option.toList_some, Option.toList_none, List.cons_append, List.nil_append, Nat.reduceAdd, Nat.add_assoc, ku_ne, ku_same, ne_eq, Nat.reduceEqDiff, reduceCtorEq, Nat.add_eq_left, Nat.left_eq_add, Nat.reduceEqDiff, q10, q_ne, true_or, or_true, md_k h, md_r16 h, md_k271 h, md_r17 h, md_k272 h, md_r18 h, md_k273 h, md_r19 h, md_k274 h, md_r20 h, md_k275 h, md_r21 h, md_k276 h, md_r22 h, md_k277 h, md_r23 h, md_k278 h, md_r24 h, md_k279 h, md_r25 h, md_k280 h, md_r26 h, md_k281 h, md_r27 h, md_k282 h, md_r28 h, md_k283 h, md_r29 h, md_k284 h, md_r30 h, md_k285 h, md_r31 h, md_k286 h, md_r33 h, md_k287 h, md_r34 h, md_k288 h, md_r35 h, md_k289 h, md_r36 h, md_k290 h, md_r37 h, md_k291 h, h64, hk1, z_1, ix64, hq, c1e, z_in (show t < 2147483648 by omega), z_cl (show t < 2147483648 by omega), ht, decide_true, w2_ub]
        rw [s204_37, e 1 (by rw [c1]; simp [bI])]
        exact ih
      · simp only [s204_3, s204_5, s204_8, s204_11, s204_12, s204_15, s204_17, s204_19, s204_21, s204_22, s204_23, s204_24, s204_25, s204_28, s204_29, s204_32, s204_33, s204_34, hf_bd_v, hf_bd_n, hf_iv_i, hf_iv_l, hf_iv_a, hf_iv_n, hf_iv_2, z_lgl, z_lgg, z_lge, z_lgle, z_lgz, Option.getD_some, Option.isSome_some, ↓reduceIte, not_true_eq_false, not_false_eq_true, Option.toList_some, Option.toList_none, List.cons_append, List.nil_append, Nat.reduceAdd, Nat.add_assoc, ku_ne, ku_same, ne_eq, Nat.reduceEqDiff, reduceCtorEq, Nat.add_eq_left, Nat.left_eq_add, Nat.reduceEqDiff, q10, q_ne, true_or, or_true, md_k h, md_r16 h, md_k271 h, md_r17 h, md_k272 h, md_r18 h, md_k273 h, md_r19 h, md_k274 h, md_r20 h, md_k275 h, md_r21 h, md_k276 h, md_r22 h, md_k277 h, md_r23 h, md_k278 h, md_r24 h, md_k279 h, md_r25 h, md_k280 h, md_r26 h, md_k281 h, md_r27 h, md_k282 h, md_r28 h, md_k283 h, md_r29 h, md_k284 h, md_r30 h, md_k285 h, md_r31 h, md_k286 h, md_r33 h, md_k287 h, md_r34 h, md_k288 h, md_r35 h, md_k289 h, md_r36 h, md_k290 h, md_r37 h, md_k291 h, h64, hk1, z_1, ix64, hq, c1, z_in (show t < 2147483648 by omega), z_cl (show t < 2147483648 by omega), ht, decide_true, w2_ub]
        rw [s204_37, e 0 (by simp [bI, c1])]
        exact ih
  have e0 : w2 I 280 282 (I 280) (fun j => if j < 0 then bI (decide (j = 64 * p + k)) else I 282 j) = I := by
    have e1 : (fun j => if j < 0 then bI (decide (j = 64 * p + k)) else I 282 j) = I 282 := by funext y; simp
    rw [e1, w2_self (by decide)]
  rw [e0] at loop
  simp only [s204_0, s204_1, hf_bd_v, hf_bd_n, hf_iv_i, hf_iv_l, hf_iv_a, hf_iv_n, hf_iv_2, z_lgl, z_lgg, z_lge, z_lgle, z_lgz, Option.getD_some, Option.isSome_some, ↓reduceIte, not_true_eq_false, not_false_eq_true, Option.toList_some, Option.toList_none, List.cons_append, List.nil_append, Nat.reduceAdd, Nat.add_assoc, ku_ne, ku_same, ne_eq, Nat.reduceEqDiff, reduceCtorEq, Nat.add_eq_left, Nat.left_eq_add, Nat.reduceEqDiff, q10, q_ne, true_or, or_true]
  exact loop
def abI (x : Int32) : Int32 := if x < 0 then -x else x
def ptI (x y : Int32) : Int32 := (if y < 0 then 4 else 0) + (if x * y < 0 then 2 else if x = 0 then (if y = 0 then 0 else 2) else 0) + (if abI x < abI y then 1 else 0)
theorem I_lt {a b : Int32} : (0 ≤ a) = ¬ a < 0 := by apply propext; exact ⟨fun h c => I_nle c h, I_le⟩
theorem m_partOf : hf_rn 214 0 [some (.int x), some (.int y), none, none] [] g I J = some (.inl (some (.int (ptI x y))), g, I, J) := by
  have e3 : ∀ a b : Int32, (a ≤ b) = ¬ b < a := by intro a b; apply propext; exact ⟨fun h c => I_nle c h, I_le⟩
  unfold ptI abI
  by_cases h1 : y < 0 <;> by_cases h2 : x < 0 <;> rcases Classical.propComplete (x = 0) with h6 | h6 <;> rcases Classical.propComplete (y = 0) with h7 | h7 <;> rcases Classical.propComplete (x * y < 0) with h3 | h3
  all_goals rcases Classical.propComplete ((if x < 0 then -x else x) < (if y < 0 then -y else y)) with h5 | h5
  all_goals simp only [h1, h2, if_true, if_false] at h5
  all_goals simp only [s214_0, s214_1, s214_4, s214_5, s214_6, s214_9, s214_10, s214_11, s214_12, s214_15, s214_16, s214_17, s214_20, s214_21, s214_22, s214_23, s214_26, s214_27, s214_30, s214_31, s214_32, s214_33, s214_34, s214_37, s214_38, s214_41, s214_42, s214_45, s214_46, s214_49, s214_50, s214_51, s214_52, s214_53, s214_56, s214_57, s214_60, s214_61, s214_62, hf_bd_v, hf_bd_n, hf_iv_i, hf_iv_l, hf_iv_a, hf_iv_n, hf_iv_2, z_lgl, z_lgg, z_lge, z_lgle, z_lgz, Option.getD_some, Option.isSome_some, ↓reduceIte, not_true_eq_false, not_false_eq_true, Option.toList_some, Option.toList_none, List.cons_append, List.nil_append, Nat.reduceAdd, Nat.add_assoc, ku_ne, ku_same, ne_eq, Nat.reduceEqDiff, reduceCtorEq, Nat.add_eq_left, Nat.left_eq_add, Nat.reduceEqDiff, q10, q_ne, true_or, or_true, I_lt, e3, h1, h2, h3, h5, h6, h7, if_true, if_false, not_true_eq_false, not_false_eq_true]
end
