/-! THE MODEL: galaxies -/
abbrev Q4 : Type := (Nat → Int32) × (Nat → Int32) × (Nat → Int32) × (Nat → Int32)
/-- shares, what is in, and the four kinds told anew -/
def gQ (I : hf_I) (S B : Nat → Int32) (Q : Q4) : hf_I := fun a => if a = 280 then S else if a = 281 then B else if a = 283 then Q.1 else if a = 284 then Q.2.1 else if a = 285 then Q.2.2.1 else if a = 286 then Q.2.2.2 else I a
section
variable {I : hf_I} {S B F A C D E : Nat → Int32} {Q : Q4} {a k : Nat} {v : Int32}
theorem gQ_S : gQ I S B Q 280 = S := rfl
theorem gQ_B : gQ I S B Q 281 = B := rfl
theorem gQ_h : gQ I S B Q 283 = Q.1 := rfl
theorem gQ_c : gQ I S B Q 284 = Q.2.1 := rfl
theorem gQ_s : gQ I S B Q 285 = Q.2.2.1 := rfl
theorem gQ_b : gQ I S B Q 286 = Q.2.2.2 := rfl
theorem gQ_n (h : a < 280 ∨ 286 < a ∨ a = 282) : gQ I S B Q a = I a := by
  unfold gQ
  rw [if_neg (by omega), if_neg (by omega), if_neg (by omega), if_neg (by omega), if_neg (by omega), if_neg (by omega)]
theorem gQ_270 : gQ I S B Q 270 = I 270 := rfl
theorem gQ_ho : gQ I S B Q 275 = I 275 := rfl
theorem gQ_ha : gQ I S B Q 276 = I 276 := rfl
theorem gQ_wS : hf_w (gQ I S B Q) 280 F = gQ I F B Q := by
  funext x
  by_cases e : x = 280
  · subst e; rw [kw_row]; rfl
  · rw [kw_ne e]; unfold gQ; rw [if_neg e, if_neg e]
theorem gQ_uB : hf_u (gQ I S B Q) 281 k v = gQ I S (up B k v) Q := by
  rw [ku_as_w]
  funext x
  by_cases e : x = 281
  · subst e; rw [kw_row]; rfl
  · rw [kw_ne e]; unfold gQ; rw [if_neg e, if_neg e]
theorem gQ_uh : hf_u (gQ I S B (A, C, D, E)) 283 k v = gQ I S B (up A k v, C, D, E) := by
  rw [ku_as_w]
  funext x
  by_cases e : x = 283
  · subst e; rw [kw_row]; rfl
  · rw [kw_ne e]; unfold gQ; rw [if_neg e, if_neg e]
theorem gQ_uc : hf_u (gQ I S B (A, C, D, E)) 284 k v = gQ I S B (A, up C k v, D, E) := by
  rw [ku_as_w]
  funext x
  by_cases e : x = 284
  · subst e; rw [kw_row]; rfl
  · rw [kw_ne e]; unfold gQ; rw [if_neg e, if_neg e]
theorem gQ_us : hf_u (gQ I S B (A, C, D, E)) 285 k v = gQ I S B (A, C, up D k v, E) := by
  rw [ku_as_w]
  funext x
  by_cases e : x = 285
  · subst e; rw [kw_row]; rfl
  · rw [kw_ne e]; unfold gQ; rw [if_neg e, if_neg e]
theorem gQ_ub : hf_u (gQ I S B (A, C, D, E)) 286 k v = gQ I S B (A, C, D, up E k v) := by
  rw [ku_as_w]
  funext x
  by_cases e : x = 286
  · subst e; rw [kw_row]; rfl
  · rw [kw_ne e]; unfold gQ; rw [if_neg e, if_neg e]
theorem gQ_self : gQ I (I 280) (I 281) (I 283, I 284, I 285, I 286) = I := by
  funext x
  unfold gQ
  by_cases h1 : x = 280
  · subst h1; rfl
  · by_cases h2 : x = 281
    · subst h2; rfl
    · by_cases h3 : x = 283
      · subst h3; rfl
      · by_cases h4 : x = 284
        · subst h4; rfl
        · by_cases h5 : x = 285
          · subst h5; rfl
          · by_cases h6 : x = 286
            · subst h6; rfl
            · rw [if_neg h1, if_neg h2, if_neg h3, if_neg h4, if_neg h5, if_neg h6]
theorem up_up {α : Type} {F : Nat → α} {k : Nat} {v w : α} : up (up F k v) k w = up F k w := by
  funext x
  unfold up
  split <;> rfl
end
def ck4 (co fo wi a c d e : Int32) : Int32 × Int32 × Int32 × Int32 :=
  let x := co * a / 1000
  let y := fo * (c + x) / 1000
  let c2 := c + x - y
  let z := if c2 ≤ wi * y / 1000 then c2 else wi * y / 1000
  (a - x, c2 - z, d + y, e + z)
def ckQ (co fo wi : Int32) (k : Nat) (Q : Q4) : Q4 :=
  let r := ck4 co fo wi (Q.1 k) (Q.2.1 k) (Q.2.2.1 k) (Q.2.2.2 k)
  (up Q.1 k r.1, up Q.2.1 k r.2.1, up Q.2.2.1 k r.2.2.1, up Q.2.2.2 k r.2.2.2)
def goQ (a b : Nat) (Q : Q4) : Q4 := (up Q.1 b (Q.1 b + Q.1 a), up Q.2.1 b (Q.2.1 b + Q.2.1 a), up Q.2.2.1 b (Q.2.2.1 b + Q.2.2.1 a), up Q.2.2.2 b (Q.2.2.2 b + Q.2.2.2 a))
def smQ (k : Nat) (Q : Q4) : Int32 := Q.1 k + Q.2.1 k + Q.2.2.1 k + Q.2.2.2 k
/-- new grains bring gas -/
def n1Q (R : Nat → Int32) (p : Nat) (q : (Nat → Int32) × Q4) (t : Nat) : (Nat → Int32) × Q4 := it t q fun k q => if R (64 * p + k) = -1 then q else if q.1 k = 0 then (up q.1 k 1, (up q.2.1 (64 * p + (R (64 * p + k)).toNatClampNeg) (q.2.1 (64 * p + (R (64 * p + k)).toNatClampNeg) + 100), q.2.2)) else q
/-- one galaxy cooks and goes on -/
def n2S (nx : Nat → Nat → Option (Nat × Nat)) (co fo wi : Int32) (p h : Nat) (q : Int32 × Q4) : Int32 × Q4 :=
  match nx p h with
  | none => (q.1 + smQ (64 * p + h) (ckQ co fo wi (64 * p + h) q.2), ckQ co fo wi (64 * p + h) q.2)
  | some (j, x) => (q.1, goQ (64 * p + h) (64 * j + x) (ckQ co fo wi (64 * p + h) q.2))
def n2Q (nx : Nat → Nat → Option (Nat × Nat)) (co fo wi : Int32) (p : Nat) (q : Int32 × Q4) (t : Nat) : Int32 × Q4 := it t q fun h q => n2S nx co fo wi p h q
def n3Q (R : Nat → Int32) (cn : Nat → Nat) (nx : Nat → Nat → Option (Nat × Nat)) (co fo wi : Int32) (c : Nat) (q : Int32 × (Nat → Int32) × Q4) (t : Nat) : Int32 × (Nat → Int32) × Q4 :=
  it t q fun p q => ((n2Q nx co fo wi p (q.1, (n1Q R p q.2 c).2) (cn p)).1, (n1Q R p q.2 c).1, (n2Q nx co fo wi p (q.1, (n1Q R p q.2 c).2) (cn p)).2)
def z768 (F : Nat → Int32) (t : Nat) : Nat → Int32 := fun j => if j < t then 0 else F j
def glM (I : hf_I) (c P : Nat) (cn : Nat → Nat) : Int32 × (Nat → Int32) × Q4 := n3Q (I 275) cn (nxM I P c) (I 270 7) (I 270 8) (I 270 9) c (0, z768 (I 281) 64, z768 (I 283) 768, z768 (I 284) 768, z768 (I 285) 768, z768 (I 286) 768) P
section
variable {g : hf_G} {I : hf_I} {J : hf_J} {a b c k l m n s p q cl P : Nat} {u v w : Int64} {i j x y : Int32} {S B F H K : Nat → Int32} {cn : Nat → Nat} {Q : Q4}
theorem z768_s {t : Nat} : up (z768 F t) t 0 = z768 F (t + 1) := by
  funext y
  unfold up z768
  by_cases h1 : y = t
  · subst h1; simp
  · simp only [h1, if_false, show (y < t + 1) = (y < t) from by apply propext; omega]
theorem z768_0 : z768 F 0 = F := by funext y; rw [z768, if_neg (by omega)]
theorem qi1000 : ¬ (1000 : Int32) = 0 := by decide
theorem m_cooks (h : Md g) (hk : k < 768) : hf_rn 207 0 [some (.ref 270), some (.int (nI k)), none, none, none] [] g (gQ I S B Q) J = some (.inl none, g, gQ I S B (ckQ (I 270 7) (I 270 8) (I 270 9) k Q), J) := by
  obtain ⟨A, C, D, E⟩ := Q
  unfold ckQ ck4
  by_cases c1 : C k + I 270 7 * A k / 1000 - I 270 8 * (C k + I 270 7 * A k / 1000) / 1000 ≤ I 270 9 * (I 270 8 * (C k + I 270 7 * A k / 1000) / 1000) / 1000
  · simp only [s207_0, s207_1, s207_4, s207_5, s207_8, s207_9, s207_10, s207_11, s207_14, s207_15, s207_16, s207_17, s207_20, s207_21, s207_22, s207_23, s207_24, s207_25, s207_26, s207_27, s207_30, s207_31, s207_32, s207_33, s207_34, s207_35, s207_36, s207_37, s207_40, s207_41, s207_44, s207_45, s207_46, s207_47, s207_50, s207_51, s207_52, s207_53, s207_56, s207_57, s207_58, s207_59, s207_60, s207_61, s207_62, s207_63, s207_66, s207_67, s207_68, s207_69, s207_70, s207_71, s207_72, s207_73, s207_76, s207_77, s207_78, s207_81, s207_82, s207_84, s207_86, s207_87, s207_90, s207_91, s207_92, s207_95, s207_97, s207_100, s207_101, s207_104, s207_105, s207_106, s207_108, s207_109, s207_112, s207_113, s207_114, s207_115, s207_117, s207_118, s207_119, s207_120, s207_123, s207_124, s207_125, s207_126, s207_128, s207_129, s207_130, hf_bd_v, hf_bd_n, hf_iv_i, hf_iv_l, hf_iv_a, hf_iv_n, hf_iv_2, z_lgl, z_lgg, z_lge, z_lgle, z_lgz, Option.getD_some, Option.isSome_some, ↓reduceIte, not_true_eq_false, not_false_eq_true, Option.toList_some, Option.toList_none, List.cons_append, List.nil_append, Nat.reduceAdd, Nat.add_assoc, ku_ne, ku_same, ne_eq, Nat.reduceEqDiff, reduceCtorEq, Nat.add_eq_left, Nat.left_eq_add, Nat.reduceEqDiff, q10, q_ne, true_or, or_true, md_k h, md_r16 h, md_k271 h, md_r17 h, md_k272 h, md_r18 h, md_k273 h, md_r19 h, md_k274 h, md_r20 h, md_k275 h, md_r21 h, md_k276 h, md_r22 h, md_k277 h, md_r23 h, md_k278 h, md_r24 h, md_k279 h, md_r25 h, md_k280 h, md_r26 h, md_k281 h, md_r27 h, md_k282 h, md_r28 h, md_k283 h, md_r29 h, md_k284 h, md_r30 h, md_k285 h, md_r31 h, md_k286 h, md_r33 h, md_k287 h, md_r34 h, md_k288 h, md_r35 h, md_k289 h, md_r36 h, md_k290 h, md_r37 h, md_k291 h, gQ_270, gQ_h, gQ_c, gQ_s, gQ_b, gQ_uh, gQ_uc, gQ_us, gQ_ub, up_s, up_up, z_in (show k < 2147483648 by omega), z_cl (show k < 2147483648 by omega), hk, decide_true, qi1000, c1]
  · simp only [s207_0, s207_1, s207_4, s207_5, s207_8, s207_9, s207_10, s207_11, s207_14, s207_15, s207_16, s207_17, s207_20, s207_21, s207_22, s207_23, s207_24, s207_25, s207_26, s207_27, s207_30, s207_31, s207_32, s207_33, s207_34, s207_35, s207_36, s207_37, s207_40, s207_41, s207_44, s207_45, s207_46, s207_47, s207_50, s207_51, s207_52, s207_53, s207_56, s207_57, s207_58, s207_59, s207_60, s207_61, s207_62, s207_63, s207_66, s207_67, s207_68, s207_69, s207_70, s207_71, s207_72, s207_73, s207_76, s207_77, s207_78, s207_81, s207_82, s207_84, s207_86, s207_87, s207_90, s207_91, s207_92, s207_95, s207_97, s207_100, s207_101, s207_104, s207_105, s207_106, s207_108, s207_109, s207_112, s207_113, s207_114, s207_115, s207_117, s207_118, s207_119, s207_120, s207_123, s207_124, s207_125, s207_126, s207_128, s207_129, s207_130, hf_bd_v, hf_bd_n, hf_iv_i, hf_iv_l, hf_iv_a, hf_iv_n, hf_iv_2, z_lgl, z_lgg, z_lge, z_lgle, z_lgz, Option.getD_some, Option.isSome_some, ↓reduceIte, not_true_eq_false, not_false_eq_true, Option.toList_some, Option.toList_none, List.cons_append, List.nil_append, Nat.reduceAdd, Nat.add_assoc, ku_ne, ku_same, ne_eq, Nat.reduceEqDiff, reduceCtorEq, Nat.add_eq_left, Nat.left_eq_add, Nat.reduceEqDiff, q10, q_ne, true_or, or_true, md_k h, md_r16 h, md_k271 h, md_r17 h, md_k272 h, md_r18 h, md_k273 h, md_r19 h, md_k274 h, md_r20 h, md_k275 h, md_r21 h, md_k276 h, md_r22 h, md_k277 h, md_r23 h, md_k278 h, md_r24 h, md_k279 h, md_r25 h, md_k280 h, md_r26 h, md_k281 h, md_r27 h, md_k282 h, md_r28 h, md_k283 h, md_r29 h, md_k284 h, md_r30 h, md_k285 h, md_r31 h, md_k286 h, md_r33 h, md_k287 h, md_r34 h, md_k288 h, md_r35 h, md_k289 h, md_r36 h, md_k290 h, md_r37 h, md_k291 h, gQ_270, gQ_h, gQ_c, gQ_s, gQ_b, gQ_uh, gQ_uc, gQ_us, gQ_ub, up_s, up_up, z_in (show k < 2147483648 by omega), z_cl (show k < 2147483648 by omega), hk, decide_true, qi1000, c1]
theorem m_goesQ (h : Md g) (ha : a < 768) (hb : b < 768) (hab : a ≠ b) : hf_rn 208 0 [some (.ref 270), some (.int (nI a)), some (.int (nI b))] [] g (gQ I S B Q) J = some (.inl none, g, gQ I S B (goQ a b Q), J) := by
  obtain ⟨A, C, D, E⟩ := Q
  rw [m_goesOn h ha hb hab, gQ_uh, gQ_uc, gQ_us, gQ_ub]
  rfl
theorem m_nextQ (h : Md g) (hM : Mdp I c P cn) (hp : p < P) (hF : s64 (I 280) S) : ∃ H, s64 (I 280) H ∧ hf_rn 198 0 [some (.ref 270), some (.int (nI p)), some (.int (nI k)), none, none] [] g (gQ I S B Q) J = some (.inl (some (.int (cdI (nxM I P c p k)))), g, gQ I H B Q, J) := by
  obtain ⟨H, h1, h2⟩ := m_nextOf (J := J) (k := k) h (mdp_fr (I2 := gQ I S B Q) hM rfl rfl rfl) hp
  refine ⟨H, s64_t hF h1, ?_⟩
  rw [h2, gQ_wS, gQ_S, gQ_ho, nxO_s hF]
  rfl
def finQ (I : hf_I) (g : hf_G) (J : hf_J) (w : Int32 × (Nat → Int32) × Q4) (r : Option hf_R) : Prop := ∃ H, s64 (I 280) H ∧ r = some (.inl (some (.int w.1)), g, gQ I H w.2.1 w.2.2, J)
theorem m_galaxies (h : Md g) (hM : Mdp I c P cn) : finQ I g J (glM I c P cn) (hf_rn 209 0 [some (.ref 270), none, none, none, none, none] [] g I J) := by
  obtain ⟨hc, hc2, hP1, hP2, hM5, hM6⟩ := id hM
  -- galaxies of one picture
  have inner2 : ∀ (w : Int32 × (Nat → Int32) × Q4) (p : Nat) (B : Nat → Int32) (q : Int32 × Q4), p < P →
      (∀ S l3 l4 l5, s64 (I 280) S → finQ I g J w (hf_rn 209 68 [some (.ref 270), some (.int (n2Q (nxM I P c) (I 270 7) (I 270 8) (I 270 9) p q (cn p)).1), some (.int (nI (p + 1))), l3, l4, l5] [] g (gQ I S B (n2Q (nxM I P c) (I 270 7) (I 270 8) (I 270 9) p q (cn p)).2) J)) →
      ∀ S l4 l5, s64 (I 280) S → finQ I g J w (hf_rn 209 146 [some (.ref 270), some (.int q.1), some (.int (nI p)), some (.int (nI 0)), l4, l5] [] g (gQ I S B q.2) J) := by
    intro w p B q hp hR
    obtain ⟨h64, hha⟩ := hM5 p hp
    refine down (n := cn p) (s := q) (f := fun h q => n2S (nxM I P c) (I 270 7) (I 270 8) (I 270 9) p h q) (fun t q => ∀ S l4 l5, s64 (I 280) S → finQ I g J w (hf_rn 209 146 [some (.ref 270), some (.int q.1), some (.int (nI p)), some (.int (nI t)), l4, l5] [] g (gQ I S B q.2) J)) ?_ ?_
    · intro S l4 l5 hS
      simp only [s209_146, s209_147, s209_148, s209_151, s209_152, s209_153, s209_156, s209_158, s209_159, s209_160, s209_161, s209_162, s209_164, s209_165, s209_167, s209_170, s209_171, s209_172, s209_173, s209_176, s209_178, s209_180, s209_181, s209_184, s209_185, s209_186, s209_189, s209_191, s209_192, s209_193, s209_196, s209_198, s209_199, s209_200, s209_201, s209_204, s209_206, s209_207, s209_208, s209_209, s209_212, s209_214, s209_215, s209_216, s209_217, s209_218, s209_221, s209_222, s209_224, s209_226, s209_228, s209_230, s209_231, s209_232, s209_234, s209_236, s209_237, s209_238, s209_241, s209_244, s209_247, hf_bd_v, hf_bd_n, hf_iv_i, hf_iv_l, hf_iv_a, hf_iv_n, hf_iv_2, z_lgl, z_lgg, z_lge, z_lgle, z_lgz, Option.getD_some, Option.isSome_some, ↓reduceIte, not_true_eq_false, not_false_eq_true, Option.toList_some, Option.toList_none, List.cons_append, List.nil_append, Nat.reduceAdd, Nat.add_assoc, ku_ne, ku_same, ne_eq, Nat.reduceEqDiff, reduceCtorEq, Nat.add_eq_left, Nat.left_eq_add, Nat.reduceEqDiff, q10, q_ne, true_or, or_true, md_k h, md_r16 h, md_k271 h, md_r17 h, md_k272 h, md_r18 h, md_k273 h, md_r19 h, md_k274 h, md_r20 h, md_k275 h, md_r21 h, md_k276 h, md_r22 h, md_k277 h, md_r23 h, md_k278 h, md_r24 h, md_k279 h, md_r25 h, md_k280 h, md_r26 h, md_k281 h, md_r27 h, md_k282 h, md_r28 h, md_k283 h, md_r29 h, md_k284 h, md_r30 h, md_k285 h, md_r31 h, md_k286 h, md_r33 h, md_k287 h, md_r34 h, md_k288 h, md_r35 h, md_k289 h, md_r36 h, md_k290 h, md_r37 h, md_k291 h, gQ_ha, hha, z_in (show p < 2147483648 by omega), z_cl (show p < 2147483648 by omega), show p < 13 by omega, decide_true, z_ii (show cn p < 2147483648 by omega) (show cn p < 2147483648 by omega), Nat.le_refl, z_1]
      rw [s209_250]
      exact hR S _ _ _ hS
    · intro t q ht hx ih S l4 l5 hS
      have hk1 : ¬ cn p ≤ t := by omega
      obtain ⟨H, x1, x2⟩ := m_nextQ (J := J) (k := t) (B := B) (Q := ckQ (I 270 7) (I 270 8) (I 270 9) (64 * p + t) q.2) h hM hp hS
      have hck := m_cooks (I := I) (J := J) (S := S) (B := B) (Q := q.2) h (show 64 * p + t < 768 by omega)
      have h7 : 64 * p + t < 768 := by omega
      unfold n2S at ih
      have hlt := @nxO_lt (I 275) (I 280) P c p t
      cases hn : nxM I P c p t with
      | none =>
        rw [hn] at ih x2
        simp only [s209_146, s209_147, s209_148, s209_151, s209_152, s209_153, s209_156, s209_158, s209_159, s209_160, s209_161, s209_162, s209_164, s209_165, s209_167, s209_170, s209_171, s209_172, s209_173, s209_176, s209_178, s209_180, s209_181, s209_184, s209_185, s209_186, s209_189, s209_191, s209_192, s209_193, s209_196, s209_198, s209_199, s209_200, s209_201, s209_204, s209_206, s209_207, s209_208, s209_209, s209_212, s209_214, s209_215, s209_216, s209_217, s209_218, s209_221, s209_222, s209_224, s209_226, s209_228, s209_230, s209_231, s209_232, s209_234, s209_236, s209_237, s209_238, s209_241, hf_bd_v, hf_bd_n, hf_iv_i, hf_iv_l, hf_iv_a, hf_iv_n, hf_iv_2, z_lgl, z_lgg, z_lge, z_lgle, z_lgz, Option.getD_some, Option.isSome_some, ↓reduceIte, not_true_eq_false, not_false_eq_true, Option.toList_some, Option.toList_none, List.cons_append, List.nil_append, Nat.reduceAdd, Nat.add_assoc, ku_ne, ku_same, ne_eq, Nat.reduceEqDiff, reduceCtorEq, Nat.add_eq_left, Nat.left_eq_add, Nat.reduceEqDiff, q10, q_ne, true_or, or_true, md_k h, md_r16 h, md_k271 h, md_r17 h, md_k272 h, md_r18 h, md_k273 h, md_r19 h, md_k274 h, md_r20 h, md_k275 h, md_r21 h, md_k276 h, md_r22 h, md_k277 h, md_r23 h, md_k278 h, md_r24 h, md_k279 h, md_r25 h, md_k280 h, md_r26 h, md_k281 h, md_r27 h, md_k282 h, md_r28 h, md_k283 h, md_r29 h, md_k284 h, md_r30 h, md_k285 h, md_r31 h, md_k286 h, md_r33 h, md_k287 h, md_r34 h, md_k288 h, md_r35 h, md_k289 h, md_r36 h, md_k290 h, md_r37 h, md_k291 h, h.1, gQ_ha, gQ_h, gQ_c, gQ_s, gQ_b, hha, z_in (show p < 2147483648 by omega), z_cl (show p < 2147483648 by omega), show p < 13 by omega, z_in (show 64 * p + t < 2147483648 by omega), z_cl (show 64 * p + t < 2147483648 by omega), h7, decide_true, z_ii (show cn p < 2147483648 by omega) (show t < 2147483648 by omega), hk1, z_1, ix64, hck, x2, cdI]
        rw [s209_244]
        exact ih H _ _ x1
      | some jx =>
        obtain ⟨j, z⟩ := jx
        obtain ⟨p1, p2, p3⟩ := hlt hP2 hn
        rw [hn] at ih x2
        have hnl : ¬ nI (100 * j + z) = -1 := by rw [nI_iZ, show (-1 : Int32) = iZ (-1) from rfl, iZ_eq (iRs (by omega) (by omega)) (iRs (by omega) (by omega))]; omega
        have hgo := m_goesQ (I := I) (J := J) (S := H) (B := B) (Q := ckQ (I 270 7) (I 270 8) (I 270 9) (64 * p + t) q.2) h h7 (show 64 * j + z < 768 by omega) (by omega)
        simp only [s209_146, s209_147, s209_148, s209_151, s209_152, s209_153, s209_156, s209_158, s209_159, s209_160, s209_161, s209_162, s209_164, s209_165, s209_167, s209_170, s209_171, s209_172, s209_173, s209_176, s209_178, s209_180, s209_181, s209_184, s209_185, s209_186, s209_189, s209_191, s209_192, s209_193, s209_196, s209_198, s209_199, s209_200, s209_201, s209_204, s209_206, s209_207, s209_208, s209_209, s209_212, s209_214, s209_215, s209_216, s209_217, s209_218, s209_221, s209_222, s209_224, s209_226, s209_228, s209_230, s209_231, s209_232, s209_234, s209_236, s209_237, s209_238, s209_241, hf_bd_v, hf_bd_n, hf_iv_i, hf_iv_l, hf_iv_a, hf_iv_n, hf_iv_2, z_lgl, z_lgg, z_lge, z_lgle, z_lgz, Option.getD_some, Option.isSome_some, ↓reduceIte, not_true_eq_false, not_false_eq_true, Option.toList_some, Option.toList_none, List.cons_append, List.nil_append, Nat.reduceAdd, Nat.add_assoc, ku_ne, ku_same, ne_eq, Nat.reduceEqDiff, reduceCtorEq, Nat.add_eq_left, Nat.left_eq_add, Nat.reduceEqDiff, q10, q_ne, true_or, or_true, md_k h, md_r16 h, md_k271 h, md_r17 h, md_k272 h, md_r18 h, md_k273 h, md_r19 h, md_k274 h, md_r20 h, md_k275 h, md_r21 h, md_k276 h, md_r22 h, md_k277 h, md_r23 h, md_k278 h, md_r24 h, md_k279 h, md_r25 h, md_k280 h, md_r26 h, md_k281 h, md_r27 h, md_k282 h, md_r28 h, md_k283 h, md_r29 h, md_k284 h, md_r30 h, md_k285 h, md_r31 h, md_k286 h, md_r33 h, md_k287 h, md_r34 h, md_k288 h, md_r35 h, md_k289 h, md_r36 h, md_k290 h, md_r37 h, md_k291 h, h.1, gQ_ha, hha, z_in (show p < 2147483648 by omega), z_cl (show p < 2147483648 by omega), show p < 13 by omega, decide_true, z_ii (show cn p < 2147483648 by omega) (show t < 2147483648 by omega), hk1, z_1, ix64, hck, x2, cdI, hnl, qi100, cdv (show z < 100 by omega) (show j < 1000 by omega), crm (show z < 100 by omega) (show j < 1000 by omega), hgo]
        rw [s209_244]
        exact ih H _ _ x1
  -- new grains of one picture
  have inner1 : ∀ (w : Int32 × (Nat → Int32) × Q4) (p : Nat) (q : (Nat → Int32) × Q4) (x : Int32) (S : Nat → Int32) (l5 : Option Value), p < P → (∀ l4, finQ I g J w (hf_rn 209 146 [some (.ref 270), some (.int x), some (.int (nI p)), some (.int (nI 0)), l4, l5] [] g (gQ I S (n1Q (I 275) p q c).1 (n1Q (I 275) p q c).2) J)) →
      ∀ l4, finQ I g J w (hf_rn 209 78 [some (.ref 270), some (.int x), some (.int (nI p)), some (.int (nI 0)), l4, l5] [] g (gQ I S q.1 q.2) J) := by
    intro w p q x S l5 hp hR
    have hho := mdp_64 hM hp
    refine down (n := c) (s := q) (f := fun k q => if I 275 (64 * p + k) = -1 then q else if q.1 k = 0 then (up q.1 k 1, (up q.2.1 (64 * p + (I 275 (64 * p + k)).toNatClampNeg) (q.2.1 (64 * p + (I 275 (64 * p + k)).toNatClampNeg) + 100), q.2.2)) else q) (fun t q => ∀ l4, finQ I g J w (hf_rn 209 78 [some (.ref 270), some (.int x), some (.int (nI p)), some (.int (nI t)), l4, l5] [] g (gQ I S q.1 q.2) J)) ?_ ?_
    · intro l4
      simp only [s209_78, s209_79, s209_80, s209_83, s209_86, s209_87, s209_90, s209_92, s209_93, s209_94, s209_95, s209_96, s209_97, s209_99, s209_101, s209_102, s209_105, s209_106, s209_109, s209_110, s209_111, s209_114, s209_115, s209_118, s209_119, s209_120, s209_121, s209_122, s209_125, s209_127, s209_128, s209_129, s209_131, s209_132, s209_133, s209_134, s209_136, s209_137, s209_138, s209_144, s209_145, hf_bd_v, hf_bd_n, hf_iv_i, hf_iv_l, hf_iv_a, hf_iv_n, hf_iv_2, z_lgl, z_lgg, z_lge, z_lgle, z_lgz, Option.getD_some, Option.isSome_some, ↓reduceIte, not_true_eq_false, not_false_eq_true, Option.toList_some, Option.toList_none, List.cons_append, List.nil_append, Nat.reduceAdd, Nat.add_assoc, ku_ne, ku_same, ne_eq, Nat.reduceEqDiff, reduceCtorEq, Nat.add_eq_left, Nat.left_eq_add, Nat.reduceEqDiff, q10, q_ne, true_or, or_true, md_k h, md_r16 h, md_k271 h, md_r17 h, md_k272 h, md_r18 h, md_k273 h, md_r19 h, md_k274 h, md_r20 h, md_k275 h, md_r21 h, md_k276 h, md_r22 h, md_k277 h, md_r23 h, md_k278 h, md_r24 h, md_k279 h, md_r25 h, md_k280 h, md_r26 h, md_k281 h, md_r27 h, md_k282 h, md_r28 h, md_k283 h, md_r29 h, md_k284 h, md_r30 h, md_k285 h, md_r31 h, md_k286 h, md_r33 h, md_k287 h, md_r34 h, md_k288 h, md_r35 h, md_k289 h, md_r36 h, md_k290 h, md_r37 h, md_k291 h, gQ_270, hc, z_ii (show c < 2147483648 by omega) (show c < 2147483648 by omega), Nat.le_refl]
      exact hR _
    · intro t q ht hx ih l4
      have hk1 : ¬ c ≤ t := by omega
      have h8 : 64 * p + t < 832 := by omega
      obtain ⟨B, A, C, D, E⟩ := q
      by_cases c1 : I 275 (64 * p + t) = -1
      · rw [if_pos c1] at ih
        simp only [s209_78, s209_79, s209_80, s209_83, s209_86, s209_87, s209_90, s209_92, s209_93, s209_94, s209_95, s209_96, s209_97, s209_99, s209_101, s209_102, s209_105, s209_106, s209_109, s209_110, s209_111, s209_114, s209_115, s209_118, s209_119, s209_120, s209_121, s209_122, s209_125, s209_127, s209_128, s209_129, s209_131, s209_132, s209_133, s209_134, s209_136, s209_137, s209_138, hf_bd_v, hf_bd_n, hf_iv_i, hf_iv_l, hf_iv_a, hf_iv_n, hf_iv_2, z_lgl, z_lgg, z_lge, z_lgle, z_lgz, Option.getD_some, Option.isSome_some, ↓reduceIte, not_true_eq_false, not_false_eq_true, Option.toList_some, Option.toList_none, List.cons_append, List.nil_append, Nat.reduceAdd, Nat.add_assoc, ku_ne, ku_same, ne_eq, Nat.reduceEqDiff, reduceCtorEq, Nat.add_eq_left, Nat.left_eq_add, Nat.reduceEqDiff, q10, q_ne, true_or, or_true, md_k h, md_r16 h, md_k271 h, md_r17 h, md_k272 h, md_r18 h, md_k273 h, md_r19 h, md_k274 h, md_r20 h, md_k275 h, md_r21 h, md_k276 h, md_r22 h, md_k277 h, md_r23 h, md_k278 h, md_r24 h, md_k279 h, md_r25 h, md_k280 h, md_r26 h, md_k281 h, md_r27 h, md_k282 h, md_r28 h, md_k283 h, md_r29 h, md_k284 h, md_r30 h, md_k285 h, md_r31 h, md_k286 h, md_r33 h, md_k287 h, md_r34 h, md_k288 h, md_r35 h, md_k289 h, md_r36 h, md_k290 h, md_r37 h, md_k291 h, gQ_270, gQ_ho, hc, z_ii (show c < 2147483648 by omega) (show t < 2147483648 by omega), hk1, z_1, ix64, z_in (show 64 * p + t < 2147483648 by omega), z_cl (show 64 * p + t < 2147483648 by omega), h8, decide_true, c1]
        rw [s209_141]
        exact ih _
      · obtain ⟨z, z1, z2⟩ := (hho t ht).resolve_left c1
        have hnl : ¬ nI z = -1 := by rw [← z2]; exact c1
        rw [if_neg c1, z2, nI_clamp (by omega)] at ih
        by_cases c2 : B t = 0
        · rw [if_pos c2] at ih
          simp only [s209_78, s209_79, s209_80, s209_83, s209_86, s209_87, s209_90, s209_92, s209_93, s209_94, s209_95, s209_96, s209_97, s209_99, s209_101, s209_102, s209_105, s209_106, s209_109, s209_110, s209_111, s209_114, s209_115, s209_118, s209_119, s209_120, s209_121, s209_122, s209_125, s209_127, s209_128, s209_129, s209_131, s209_132, s209_133, s209_134, s209_136, s209_137, s209_138, hf_bd_v, hf_bd_n, hf_iv_i, hf_iv_l, hf_iv_a, hf_iv_n, hf_iv_2, z_lgl, z_lgg, z_lge, z_lgle, z_lgz, Option.getD_some, Option.isSome_some, ↓reduceIte, not_true_eq_false, not_false_eq_true, Option.toList_some, Option.toList_none, List.cons_append, List.nil_append, Nat.reduceAdd, Nat.add_assoc, ku_ne, ku_same, ne_eq, Nat.reduceEqDiff, reduceCtorEq, Nat.add_eq_left, Nat.left_eq_add, Nat.reduceEqDiff, q10, q_ne, true_or, or_true, md_k h, md_r16 h, md_k271 h, md_r17 h, md_k272 h, md_r18 h, md_k273 h, md_r19 h, md_k274 h, md_r20 h, md_k275 h, md_r21 h, md_k276 h, md_r22 h, md_k277 h, md_r23 h, md_k278 h, md_r24 h, md_k279 h, md_r25 h, md_k280 h, md_r26 h, md_k281 h, md_r27 h, md_k282 h, md_r28 h, md_k283 h, md_r29 h, md_k284 h, md_r30 h, md_k285 h, md_r31 h, md_k286 h, md_r33 h, md_k287 h, md_r34 h, md_k288 h, md_r35 h, md_k289 h, md_r36 h, md_k290 h, md_r37 h, md_k291 h, gQ_270, gQ_ho, gQ_B, gQ_h, gQ_uB, gQ_uh, hc, z_ii (show c < 2147483648 by omega) (show t < 2147483648 by omega), hk1, z_1, ix64, z_in (show 64 * p + t < 2147483648 by omega), z_cl (show 64 * p + t < 2147483648 by omega), h8, z_in (show t < 2147483648 by omega), z_cl (show t < 2147483648 by omega), show t < 64 by omega, z_in (show 64 * p + z < 2147483648 by omega), z_cl (show 64 * p + z < 2147483648 by omega), show 64 * p + z < 768 by omega, decide_true, z2, hnl, c2]
          rw [s209_141]
          exact ih _
        · rw [if_neg c2] at ih
          simp only [s209_78, s209_79, s209_80, s209_83, s209_86, s209_87, s209_90, s209_92, s209_93, s209_94, s209_95, s209_96, s209_97, s209_99, s209_101, s209_102, s209_105, s209_106, s209_109, s209_110, s209_111, s209_114, s209_115, s209_118, s209_119, s209_120, s209_121, s209_122, s209_125, s209_127, s209_128, s209_129, s209_131, s209_132, s209_133, s209_134, s209_136, s209_137, s209_138, hf_bd_v, hf_bd_n, hf_iv_i, hf_iv_l, hf_iv_a, hf_iv_n, hf_iv_2, z_lgl, z_lgg, z_lge, z_lgle, z_lgz, Option.getD_some, Option.isSome_some, ↓reduceIte, not_true_eq_false, not_false_eq_true, Option.toList_some, Option.toList_none, List.cons_append, List.nil_append, Nat.reduceAdd, Nat.add_assoc, ku_ne, ku_same, ne_eq, Nat.reduceEqDiff, reduceCtorEq, Nat.add_eq_left, Nat.left_eq_add, Nat.reduceEqDiff, q10, q_ne, true_or, or_true, md_k h, md_r16 h, md_k271 h, md_r17 h, md_k272 h, md_r18 h, md_k273 h, md_r19 h, md_k274 h, md_r20 h, md_k275 h, md_r21 h, md_k276 h, md_r22 h, md_k277 h, md_r23 h, md_k278 h, md_r24 h, md_k279 h, md_r25 h, md_k280 h, md_r26 h, md_k281 h, md_r27 h, md_k282 h, md_r28 h, md_k283 h, md_r29 h, md_k284 h, md_r30 h, md_k285 h, md_r31 h, md_k286 h, md_r33 h, md_k287 h, md_r34 h, md_k288 h, md_r35 h, md_k289 h, md_r36 h, md_k290 h, md_r37 h, md_k291 h, gQ_270, gQ_ho, gQ_B, hc, z_ii (show c < 2147483648 by omega) (show t < 2147483648 by omega), hk1, z_1, ix64, z_in (show 64 * p + t < 2147483648 by omega), z_cl (show 64 * p + t < 2147483648 by omega), h8, z_in (show t < 2147483648 by omega), z_cl (show t < 2147483648 by omega), show t < 64 by omega, decide_true, z2, hnl, c2]
          rw [s209_141]
          exact ih _
  -- all pictures
  have loop : ∀ S l3 l4 l5, s64 (I 280) S → finQ I g J (glM I c P cn) (hf_rn 209 68 [some (.ref 270), some (.int 0), some (.int (nI 0)), l3, l4, l5] [] g (gQ I S (z768 (I 281) 64) (z768 (I 283) 768, z768 (I 284) 768, z768 (I 285) 768, z768 (I 286) 768)) J) := by
    refine down (n := P) (s := ((0 : Int32), z768 (I 281) 64, z768 (I 283) 768, z768 (I 284) 768, z768 (I 285) 768, z768 (I 286) 768)) (f := fun p q => ((n2Q (nxM I P c) (I 270 7) (I 270 8) (I 270 9) p (q.1, (n1Q (I 275) p q.2 c).2) (cn p)).1, (n1Q (I 275) p q.2 c).1, (n2Q (nxM I P c) (I 270 7) (I 270 8) (I 270 9) p (q.1, (n1Q (I 275) p q.2 c).2) (cn p)).2)) (fun t q => ∀ S l3 l4 l5, s64 (I 280) S → finQ I g J (glM I c P cn) (hf_rn 209 68 [some (.ref 270), some (.int q.1), some (.int (nI t)), l3, l4, l5] [] g (gQ I S q.2.1 q.2.2) J)) ?_ ?_
    · intro S l3 l4 l5 hS
      simp only [s209_68, s209_69, s209_70, s209_73, s209_76, s209_77, s209_253, s209_254, hf_bd_v, hf_bd_n, hf_iv_i, hf_iv_l, hf_iv_a, hf_iv_n, hf_iv_2, z_lgl, z_lgg, z_lge, z_lgle, z_lgz, Option.getD_some, Option.isSome_some, ↓reduceIte, not_true_eq_false, not_false_eq_true, Option.toList_some, Option.toList_none, List.cons_append, List.nil_append, Nat.reduceAdd, Nat.add_assoc, ku_ne, ku_same, ne_eq, Nat.reduceEqDiff, reduceCtorEq, Nat.add_eq_left, Nat.left_eq_add, Nat.reduceEqDiff, q10, q_ne, true_or, or_true, md_k h, md_r16 h, md_k271 h, md_r17 h, md_k272 h, md_r18 h, md_k273 h, md_r19 h, md_k274 h, md_r20 h, md_k275 h, md_r21 h, md_k276 h, md_r22 h, md_k277 h, md_r23 h, md_k278 h, md_r24 h, md_k279 h, md_r25 h, md_k280 h, md_r26 h, md_k281 h, md_r27 h, md_k282 h, md_r28 h, md_k283 h, md_r29 h, md_k284 h, md_r30 h, md_k285 h, md_r31 h, md_k286 h, md_r33 h, md_k287 h, md_r34 h, md_k288 h, md_r35 h, md_k289 h, md_r36 h, md_k290 h, md_r37 h, md_k291 h, gQ_270, hP1, z_ii (show P < 2147483648 by omega) (show P < 2147483648 by omega), Nat.le_refl]
      exact ⟨S, hS, rfl⟩
    · intro t q ht hx ih S l3 l4 l5 hS
      have hk1 : ¬ P ≤ t := by omega
      simp only [s209_68, s209_69, s209_70, s209_73, s209_76, s209_77, hf_bd_v, hf_bd_n, hf_iv_i, hf_iv_l, hf_iv_a, hf_iv_n, hf_iv_2, z_lgl, z_lgg, z_lge, z_lgle, z_lgz, Option.getD_some, Option.isSome_some, ↓reduceIte, not_true_eq_false, not_false_eq_true, Option.toList_some, Option.toList_none, List.cons_append, List.nil_append, Nat.reduceAdd, Nat.add_assoc, ku_ne, ku_same, ne_eq, Nat.reduceEqDiff, reduceCtorEq, Nat.add_eq_left, Nat.left_eq_add, Nat.reduceEqDiff, q10, q_ne, true_or, or_true, md_k h, md_r16 h, md_k271 h, md_r17 h, md_k272 h, md_r18 h, md_k273 h, md_r19 h, md_k274 h, md_r20 h, md_k275 h, md_r21 h, md_k276 h, md_r22 h, md_k277 h, md_r23 h, md_k278 h, md_r24 h, md_k279 h, md_r25 h, md_k280 h, md_r26 h, md_k281 h, md_r27 h, md_k282 h, md_r28 h, md_k283 h, md_r29 h, md_k284 h, md_r30 h, md_k285 h, md_r31 h, md_k286 h, md_r33 h, md_k287 h, md_r34 h, md_k288 h, md_r35 h, md_k289 h, md_r36 h, md_k290 h, md_r37 h, md_k291 h, gQ_270, hP1, z_ii (show P < 2147483648 by omega) (show t < 2147483648 by omega), hk1]
      exact inner1 _ t q.2 q.1 S l5 ht (fun l4 => inner2 _ t (n1Q (I 275) t q.2 c).1 (q.1, (n1Q (I 275) t q.2 c).2) ht ih S l4 l5 hS) _
  have loopB : finQ I g J (glM I c P cn) (hf_rn 209 45 [some (.ref 270), some (.int (nI 0)), none, none, none, none] [] g (gQ I (I 280) (z768 (I 281) 0) (z768 (I 283) 768, z768 (I 284) 768, z768 (I 285) 768, z768 (I 286) 768)) J) := by
    refine down (n := 64) (s := ()) (f := fun _ _ => ()) (fun t _ => finQ I g J (glM I c P cn) (hf_rn 209 45 [some (.ref 270), some (.int (nI t)), none, none, none, none] [] g (gQ I (I 280) (z768 (I 281) t) (z768 (I 283) 768, z768 (I 284) 768, z768 (I 285) 768, z768 (I 286) 768)) J)) ?_ ?_
    · have h64 : (64 : Int32) ≤ nI 64 := by decide
      simp only [s209_45, s209_46, s209_48, s209_51, s209_52, s209_55, s209_56, s209_57, s209_58, s209_64, s209_65, s209_66, s209_67, hf_bd_v, hf_bd_n, hf_iv_i, hf_iv_l, hf_iv_a, hf_iv_n, hf_iv_2, z_lgl, z_lgg, z_lge, z_lgle, z_lgz, Option.getD_some, Option.isSome_some, ↓reduceIte, not_true_eq_false, not_false_eq_true, Option.toList_some, Option.toList_none, List.cons_append, List.nil_append, Nat.reduceAdd, Nat.add_assoc, ku_ne, ku_same, ne_eq, Nat.reduceEqDiff, reduceCtorEq, Nat.add_eq_left, Nat.left_eq_add, Nat.reduceEqDiff, q10, q_ne, true_or, or_true, h64]
      exact loop _ _ _ _ s64_r
    · intro t _ ht _ ih
      have h64 : ((64 : Int32) ≤ nI t) = (64 ≤ t) := z_ii (a := 64) (by decide) (by omega)
      have hk1 : ¬ 64 ≤ t := by omega
      simp only [s209_45, s209_46, s209_48, s209_51, s209_52, s209_55, s209_56, s209_57, s209_58, hf_bd_v, hf_bd_n, hf_iv_i, hf_iv_l, hf_iv_a, hf_iv_n, hf_iv_2, z_lgl, z_lgg, z_lge, z_lgle, z_lgz, Option.getD_some, Option.isSome_some, ↓reduceIte, not_true_eq_false, not_false_eq_true, Option.toList_some, Option.toList_none, List.cons_append, List.nil_append, Nat.reduceAdd, Nat.add_assoc, ku_ne, ku_same, ne_eq, Nat.reduceEqDiff, reduceCtorEq, Nat.add_eq_left, Nat.left_eq_add, Nat.reduceEqDiff, q10, q_ne, true_or, or_true, md_k h, md_r16 h, md_k271 h, md_r17 h, md_k272 h, md_r18 h, md_k273 h, md_r19 h, md_k274 h, md_r20 h, md_k275 h, md_r21 h, md_k276 h, md_r22 h, md_k277 h, md_r23 h, md_k278 h, md_r24 h, md_k279 h, md_r25 h, md_k280 h, md_r26 h, md_k281 h, md_r27 h, md_k282 h, md_r28 h, md_k283 h, md_r29 h, md_k284 h, md_r30 h, md_k285 h, md_r31 h, md_k286 h, md_r33 h, md_k287 h, md_r34 h, md_k288 h, md_r35 h, md_k289 h, md_r36 h, md_k290 h, md_r37 h, md_k291 h, h64, hk1, z_1, z_in (show t < 2147483648 by omega), z_cl (show t < 2147483648 by omega), ht, decide_true, gQ_uB, z768_s]
      rw [s209_61]
      exact ih
  have loopA : finQ I g J (glM I c P cn) (hf_rn 209 2 [some (.ref 270), some (.int (nI 0)), none, none, none, none] [] g (gQ I (I 280) (z768 (I 281) 0) (z768 (I 283) 0, z768 (I 284) 0, z768 (I 285) 0, z768 (I 286) 0)) J) := by
    refine down (n := 768) (s := ()) (f := fun _ _ => ()) (fun t _ => finQ I g J (glM I c P cn) (hf_rn 209 2 [some (.ref 270), some (.int (nI t)), none, none, none, none] [] g (gQ I (I 280) (z768 (I 281) 0) (z768 (I 283) t, z768 (I 284) t, z768 (I 285) t, z768 (I 286) t)) J)) ?_ ?_
    · have h64 : (768 : Int32) ≤ nI 768 := by decide
      simp only [s209_2, s209_3, s209_6, s209_9, s209_10, s209_13, s209_14, s209_15, s209_16, s209_17, s209_20, s209_21, s209_22, s209_23, s209_24, s209_27, s209_28, s209_29, s209_30, s209_31, s209_34, s209_35, s209_36, s209_37, s209_43, s209_44, hf_bd_v, hf_bd_n, hf_iv_i, hf_iv_l, hf_iv_a, hf_iv_n, hf_iv_2, z_lgl, z_lgg, z_lge, z_lgle, z_lgz, Option.getD_some, Option.isSome_some, ↓reduceIte, not_true_eq_false, not_false_eq_true, Option.toList_some, Option.toList_none, List.cons_append, List.nil_append, Nat.reduceAdd, Nat.add_assoc, ku_ne, ku_same, ne_eq, Nat.reduceEqDiff, reduceCtorEq, Nat.add_eq_left, Nat.left_eq_add, Nat.reduceEqDiff, q10, q_ne, true_or, or_true, h64]
      exact loopB
    · intro t _ ht _ ih
      have h64 : ((768 : Int32) ≤ nI t) = (768 ≤ t) := z_ii (a := 768) (by decide) (by omega)
      have hk1 : ¬ 768 ≤ t := by omega
      simp only [s209_2, s209_3, s209_6, s209_9, s209_10, s209_13, s209_14, s209_15, s209_16, s209_17, s209_20, s209_21, s209_22, s209_23, s209_24, s209_27, s209_28, s209_29, s209_30, s209_31, s209_34, s209_35, s209_36, s209_37, hf_bd_v, hf_bd_n, hf_iv_i, hf_iv_l, hf_iv_a, hf_iv_n, hf_iv_2, z_lgl, z_lgg, z_lge, z_lgle, z_lgz, Option.getD_some, Option.isSome_some, ↓reduceIte, not_true_eq_false, not_false_eq_true, Option.toList_some, Option.toList_none, List.cons_append, List.nil_append, Nat.reduceAdd, Nat.add_assoc, ku_ne, ku_same, ne_eq, Nat.reduceEqDiff, reduceCtorEq, Nat.add_eq_left, Nat.left_eq_add, Nat.reduceEqDiff, q10, q_ne, true_or, or_true, md_k h, md_r16 h, md_k271 h, md_r17 h, md_k272 h, md_r18 h, md_k273 h, md_r19 h, md_k274 h, md_r20 h, md_k275 h, md_r21 h, md_k276 h, md_r22 h, md_k277 h, md_r23 h, md_k278 h, md_r24 h, md_k279 h, md_r25 h, md_k280 h, md_r26 h, md_k281 h, md_r27 h, md_k282 h, md_r28 h, md_k283 h, md_r29 h, md_k284 h, md_r30 h, md_k285 h, md_r31 h, md_k286 h, md_r33 h, md_k287 h, md_r34 h, md_k288 h, md_r35 h, md_k289 h, md_r36 h, md_k290 h, md_r37 h, md_k291 h, h64, hk1, z_1, z_in (show t < 2147483648 by omega), z_cl (show t < 2147483648 by omega), ht, decide_true, gQ_uh, gQ_uc, gQ_us, gQ_ub, z768_s]
      rw [s209_40]
      exact ih
  rw [z768_0, z768_0, z768_0, z768_0, z768_0, gQ_self] at loopA
  simp only [s209_0, s209_1, hf_bd_v, hf_bd_n, hf_iv_i, hf_iv_l, hf_iv_a, hf_iv_n, hf_iv_2, z_lgl, z_lgg, z_lge, z_lgle, z_lgz, Option.getD_some, Option.isSome_some, ↓reduceIte, not_true_eq_false, not_false_eq_true, Option.toList_some, Option.toList_none, List.cons_append, List.nil_append, Nat.reduceAdd, Nat.add_assoc, ku_ne, ku_same, ne_eq, Nat.reduceEqDiff, reduceCtorEq, Nat.add_eq_left, Nat.left_eq_add, Nat.reduceEqDiff, q10, q_ne, true_or, or_true]
  exact loopA
end
