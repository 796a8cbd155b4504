/-! THE MODEL: the sky -/
/-- what is seen, told anew -/
abbrev V5 : Type := (Nat → Int32) × (Nat → Int32) × (Nat → Int32) × (Nat → Int32) × (Nat → Int32)
def lQ (K : hf_I) (n : Nat) (V : V5) : hf_I := fun a => if a = 287 then V.1 else if a = 288 then V.2.1 else if a = 289 then V.2.2.1 else if a = 290 then V.2.2.2.1 else if a = 291 then V.2.2.2.2 else if a = 270 then up (K 270) 32 (nI n) else K a
section
variable {K : hf_I} {V F R P H F2 : Nat → Int32} {W : V5} {a k m n : Nat} {v : Int32}
theorem lQ_v : lQ K n W 287 = W.1 := rfl
theorem lQ_f : lQ K n W 288 = W.2.1 := rfl
theorem lQ_r : lQ K n W 289 = W.2.2.1 := rfl
theorem lQ_p : lQ K n W 290 = W.2.2.2.1 := rfl
theorem lQ_h : lQ K n W 291 = W.2.2.2.2 := rfl
theorem lQ_32 : lQ K n W 270 32 = nI n := rfl
theorem lQ_0 (h : m ≠ 32) : lQ K n W 270 m = K 270 m := up_n h
theorem lQ_n (h : a < 287) (h2 : a ≠ 270) : lQ K n W a = K a := by
  unfold lQ
  rw [if_neg (by omega), if_neg (by omega), if_neg (by omega), if_neg (by omega), if_neg (by omega), if_neg h2]
theorem lQ_uv : hf_u (lQ K n (V, F, R, P, H)) 287 k v = lQ K n (up V k v, F, R, P, H) := by
  rw [ku_as_w]; funext x
  by_cases e : x = 287
  · subst e; rw [kw_row]; rfl
  · rw [kw_ne e]; unfold lQ; rw [if_neg e, if_neg e]
theorem lQ_uf : hf_u (lQ K n (V, F, R, P, H)) 288 k v = lQ K n (V, up F k v, R, P, H) := by
  rw [ku_as_w]; funext x
  by_cases e : x = 288
  · subst e; rw [kw_row]; rfl
  · rw [kw_ne e]; unfold lQ; rw [if_neg e, if_neg e]
theorem lQ_ur : hf_u (lQ K n (V, F, R, P, H)) 289 k v = lQ K n (V, F, up R k v, P, H) := by
  rw [ku_as_w]; funext x
  by_cases e : x = 289
  · subst e; rw [kw_row]; rfl
  · rw [kw_ne e]; unfold lQ; rw [if_neg e, if_neg e]
theorem lQ_up : hf_u (lQ K n (V, F, R, P, H)) 290 k v = lQ K n (V, F, R, up P k v, H) := by
  rw [ku_as_w]; funext x
  by_cases e : x = 290
  · subst e; rw [kw_row]; rfl
  · rw [kw_ne e]; unfold lQ; rw [if_neg e, if_neg e]
theorem lQ_uh : hf_u (lQ K n (V, F, R, P, H)) 291 k v = lQ K n (V, F, R, P, up H k v) := by
  rw [ku_as_w]; funext x
  by_cases e : x = 291
  · subst e; rw [kw_row]; rfl
  · rw [kw_ne e]; unfold lQ; rw [if_neg e, if_neg e]
theorem lQ_un : hf_u (lQ K n W) 270 32 (nI m) = lQ K m W := by
  funext x j
  unfold hf_u lQ
  by_cases e : x = 270
  · subst e
    by_cases e2 : j = 32
    · subst e2; simp [up]
    · simp [up, e2]
  · simp [e]
theorem lQ_mk : hf_u K 270 32 (nI m) = lQ K m (K 287, K 288, K 289, K 290, K 291) := by
  funext x j
  unfold hf_u lQ
  by_cases e : x = 270
  · subst e
    by_cases e2 : j = 32
    · subst e2; simp [up]
    · simp [up, e2]
  · by_cases h1 : x = 287
    · subst h1; simp
    · by_cases h2 : x = 288
      · subst h2; simp
      · by_cases h3 : x = 289
        · subst h3; simp
        · by_cases h4 : x = 290
          · subst h4; simp
          · by_cases h5 : x = 291
            · subst h5; simp
            · simp [e, h1, h2, h3, h4, h5]
end
/-- one galaxy as it is seen: far, whether, red -/
def sfI (x y : Int32) : Nat := rtN (sqI x y) 13
def seeI (K : hf_I) (p k : Nat) (x y : Int32) : Bool := decide (¬ K 285 (64 * p + k) ≤ 0) && (decide (nI (sfI x y) / K 270 12 = K 270 15 - 1 - nI p) && decide ((K 270 13) >>> (ptI x y &&& 31) &&& 1 = 0))
def redI (x y : Int32) (t3 t4 : Int64) : Int32 := ((nI (sfI x y)).toInt64 + dwL (x.toInt64 * t3 + y.toInt64 * t4) (if nI (sfI x y) ≤ 0 then 16 else 16 * (nI (sfI x y)).toInt64)).toInt32
def lkS (K : hf_I) (T : Nat → Nat → Int32 → Int64) (p k : Nat) (q : Nat × V5) : Nat × V5 :=
  let x := wyI (K 270 10) (T p k 1).toInt32
  let y := wyI (K 270 11) (T p k 2).toInt32
  if seeI K p k x y = true then (q.1 + 1, up q.2.1 q.1 (nI (100 * p + k)), up q.2.2.1 q.1 (nI (sfI x y)), up q.2.2.2.1 q.1 (redI x y (T p k 3) (T p k 4)), up q.2.2.2.2.1 q.1 (ptI x y), up q.2.2.2.2.2 q.1 0) else q
section
variable {g : hf_G} {I : hf_I} {J : hf_J} {a b c k l m n s p q cl P : Nat} {u v w : Int64} {i j x y : Int32} {S B F H : Nat → Int32} {cn : Nat → Nat} {Q : Q4} {K : hf_I} {W : V5} {T : Nat → Nat → Int32 → Int64}
theorem m_looksAt (h : Md g) (hp : p < 12) (hk : k < 64) (hn : n < 768) (hd : ¬ K 270 12 = 0)
    (hT : ∀ (y : Int32) (n : Nat) (W : V5), (y = 1 ∨ y = 2 ∨ y = 3 ∨ y = 4) → hf_rn 191 0 [some (.ref 270), some (.int (nI p)), some (.int (nI k)), some (.int y), none, none, none, none, none, none, none, none] [] g (lQ K n W) J = some (.inl (some (.long (T p k y))), g, lQ K n W, J)) :
    hf_rn 215 0 [some (.ref 270), some (.int (nI p)), some (.int (nI k)), none, none, none, none] [] g (lQ K n W) J = some (.inl none, g, lQ K (lkS K T p k (n, W)).1 (lkS K T p k (n, W)).2, J) := by
  obtain ⟨V, F, R, Pt, H⟩ := W
  have t1 := hT 1 n (V, F, R, Pt, H) (Or.inl rfl)
  have t2 := hT 2 n (V, F, R, Pt, H) (Or.inr (Or.inl rfl))
  have t3 := fun W => hT 3 n W (Or.inr (Or.inr (Or.inl rfl)))
  have t4 := fun W => hT 4 n W (Or.inr (Or.inr (Or.inr rfl)))
  unfold lkS seeI redI sfI
  dsimp only
  generalize T p k 1 = u1 at *
  generalize T p k 2 = u2 at *
  generalize T p k 3 = u3 at *
  generalize T p k 4 = u4 at *
  generalize hx : wyI (K 270 10) u1.toInt32 = x
  generalize hy : wyI (K 270 11) u2.toInt32 = y
  have h9 : ∀ n W, lQ K n W 270 10 = K 270 10 := fun n W => lQ_0 (by decide)
  have h10 : ∀ n W, lQ K n W 270 11 = K 270 11 := fun n W => lQ_0 (by decide)
  have h11 : ∀ n W, lQ K n W 270 12 = K 270 12 := fun n W => lQ_0 (by decide)
  have h12 : ∀ n W, lQ K n W 270 13 = K 270 13 := fun n W => lQ_0 (by decide)
  have h15 : ∀ n W, lQ K n W 270 15 = K 270 15 := fun n W => lQ_0 (by decide)
  have hst : ∀ n W, lQ K n W 285 = K 285 := fun n W => lQ_n (by decide) (by decide)
  have hr := @rtN_le (sqI x y) 13
  have h7 : 64 * p + k < 768 := by omega
  have hroot : ∀ I : hf_I, hf_rn 155 0 [some (.int (sqI x y)), none, none, none] [] g I J = some (.inl (some (.int (nI (rtN (sqI x y) 13)))), g, I, J) := fun I => m_root
  generalize rtN (sqI x y) 13 = d at *
  by_cases c1 : K 285 (64 * p + k) ≤ 0
  · simp only [s215_0, s215_1, s215_4, s215_5, s215_6, s215_7, s215_8, s215_11, s215_12, s215_15, s215_16, s215_17, s215_20, s215_21, s215_22, s215_23, s215_24, s215_27, s215_28, s215_31, s215_33, s215_34, s215_36, s215_39, s215_42, s215_44, s215_45, s215_48, s215_50, s215_51, s215_52, s215_53, s215_54, s215_55, s215_58, s215_60, s215_61, s215_64, s215_65, s215_66, s215_69, s215_70, s215_71, s215_72, s215_73, s215_76, s215_77, s215_80, s215_81, s215_83, s215_85, s215_88, s215_89, s215_92, s215_93, s215_95, s215_98, s215_99, s215_100, s215_101, s215_104, s215_105, s215_108, s215_109, s215_112, s215_114, s215_115, s215_116, s215_117, s215_118, s215_119, s215_120, s215_123, s215_124, s215_127, s215_129, s215_130, s215_131, s215_134, s215_135, s215_138, s215_140, s215_141, s215_142, s215_143, s215_144, s215_145, s215_146, s215_147, s215_150, s215_151, s215_153, s215_154, s215_155, s215_156, s215_157, s215_158, s215_161, s215_162, s215_163, s215_165, s215_168, s215_171, s215_173, s215_174, s215_175, s215_178, s215_181, s215_184, s215_185, s215_186, s215_187, s215_188, s215_191, s215_192, s215_195, s215_196, s215_198, s215_201, s215_202, s215_203, s215_206, s215_207, s215_210, s215_211, s215_212, s215_213, s215_214, s215_217, s215_218, s215_219, s215_222, hf_bd_v, hf_bd_n, hf_iv_i, hf_iv_l, hf_iv_a, hf_iv_n, hf_iv_2, z_lgl, z_lgg, z_lge, z_lgle, z_lgz, Option.getD_some, Option.isSome_some, ↓reduceIte, not_true_eq_false, not_false_eq_true, Option.toList_some, Option.toList_none, List.cons_append, List.nil_append, Nat.reduceAdd, Nat.add_assoc, ku_ne, ku_same, ne_eq, Nat.reduceEqDiff, reduceCtorEq, Nat.add_eq_left, Nat.left_eq_add, Nat.reduceEqDiff, q10, q_ne, true_or, or_true, md_k h, md_r16 h, md_k271 h, md_r17 h, md_k272 h, md_r18 h, md_k273 h, md_r19 h, md_k274 h, md_r20 h, md_k275 h, md_r21 h, md_k276 h, md_r22 h, md_k277 h, md_r23 h, md_k278 h, md_r24 h, md_k279 h, md_r25 h, md_k280 h, md_r26 h, md_k281 h, md_r27 h, md_k282 h, md_r28 h, md_k283 h, md_r29 h, md_k284 h, md_r30 h, md_k285 h, md_r31 h, md_k286 h, md_r33 h, md_k287 h, md_r34 h, md_k288 h, md_r35 h, md_k289 h, md_r36 h, md_k290 h, md_r37 h, md_k291 h, h.1, h9, h10, h11, h12, h15, hst, t1, t2, hx, hy, m_way, m_squares, hroot, ix64, z_in (show 64 * p + k < 2147483648 by omega), z_cl (show 64 * p + k < 2147483648 by omega), h7, decide_true, c1, decide_false, Bool.false_and, Bool.false_eq_true]
  · by_cases c2 : nI d / K 270 12 = K 270 15 - 1 - nI p
    · by_cases c3 : (K 270 13) >>> (ptI x y &&& 31) &&& 1 = 0
      · by_cases c4 : nI d ≤ 0
        · simp only [s215_0, s215_1, s215_4, s215_5, s215_6, s215_7, s215_8, s215_11, s215_12, s215_15, s215_16, s215_17, s215_20, s215_21, s215_22, s215_23, s215_24, s215_27, s215_28, s215_31, s215_33, s215_34, s215_36, s215_39, s215_42, s215_44, s215_45, s215_48, s215_50, s215_51, s215_52, s215_53, s215_54, s215_55, s215_58, s215_60, s215_61, s215_64, s215_65, s215_66, s215_69, s215_70, s215_71, s215_72, s215_73, s215_76, s215_77, s215_80, s215_81, s215_83, s215_85, s215_88, s215_89, s215_92, s215_93, s215_95, s215_98, s215_99, s215_100, s215_101, s215_104, s215_105, s215_108, s215_109, s215_112, s215_114, s215_115, s215_116, s215_117, s215_118, s215_119, s215_120, s215_123, s215_124, s215_127, s215_129, s215_130, s215_131, s215_134, s215_135, s215_138, s215_140, s215_141, s215_142, s215_143, s215_144, s215_145, s215_146, s215_147, s215_150, s215_151, s215_153, s215_154, s215_155, s215_156, s215_157, s215_158, s215_161, s215_162, s215_163, s215_165, s215_168, s215_171, s215_173, s215_174, s215_175, s215_178, s215_181, s215_184, s215_185, s215_186, s215_187, s215_188, s215_191, s215_192, s215_195, s215_196, s215_198, s215_201, s215_202, s215_203, s215_206, s215_207, s215_210, s215_211, s215_212, s215_213, s215_214, s215_217, s215_218, s215_219, s215_222, hf_bd_v, hf_bd_n, hf_iv_i, hf_iv_l, hf_iv_a, hf_iv_n, hf_iv_2, z_lgl, z_lgg, z_lge, z_lgle, z_lgz, Option.getD_some, Option.isSome_some, ↓reduceIte, not_true_eq_false, not_false_eq_true, Option.toList_some, Option.toList_none, List.cons_append, List.nil_append, Nat.reduceAdd, Nat.add_assoc, ku_ne, ku_same, ne_eq, Nat.reduceEqDiff, reduceCtorEq, Nat.add_eq_left, Nat.left_eq_add, Nat.reduceEqDiff, q10, q_ne, true_or, or_true, md_k h, md_r16 h, md_k271 h, md_r17 h, md_k272 h, md_r18 h, md_k273 h, md_r19 h, md_k274 h, md_r20 h, md_k275 h, md_r21 h, md_k276 h, md_r22 h, md_k277 h, md_r23 h, md_k278 h, md_r24 h, md_k279 h, md_r25 h, md_k280 h, md_r26 h, md_k281 h, md_r27 h, md_k282 h, md_r28 h, md_k283 h, md_r29 h, md_k284 h, md_r30 h, md_k285 h, md_r31 h, md_k286 h, md_r33 h, md_k287 h, md_r34 h, md_k288 h, md_r35 h, md_k289 h, md_r36 h, md_k290 h, md_r37 h, md_k291 h, h.1, h9, h10, h11, h12, h15, hst, hd, t1, t2, t3, t4, hx, hy, m_way, m_squares, hroot, ix64, nx100, z_in (show 64 * p + k < 2147483648 by omega), z_cl (show 64 * p + k < 2147483648 by omega), h7, decide_true, c1, c2, c3, c4, decide_false, Bool.and_self, m_partOf, lQ_32, lQ_uv, lQ_uf, lQ_ur, lQ_up, lQ_uh, lQ_un, z_in (show n < 2147483648 by omega), z_cl (show n < 2147483648 by omega), hn, m_down (show ¬ (16 : Int64) = 0 by decide), z_1]
        · have hz : ¬ (16 : Int64) * (nI d).toInt64 = 0 := by
            have hd0 : 0 < d := by
              apply Classical.byContradiction
              intro c
              apply c4
              have : d = 0 := by omega
              subst this
              decide
            rw [nI_ll (by omega), show (16 : Int64) = lZ 16 from rfl, lZ_mul, show (0 : Int64) = lZ 0 from rfl, lZ_eq ⟨by omega, by omega⟩ ⟨by omega, by omega⟩]
            omega
          simp only [s215_0, s215_1, s215_4, s215_5, s215_6, s215_7, s215_8, s215_11, s215_12, s215_15, s215_16, s215_17, s215_20, s215_21, s215_22, s215_23, s215_24, s215_27, s215_28, s215_31, s215_33, s215_34, s215_36, s215_39, s215_42, s215_44, s215_45, s215_48, s215_50, s215_51, s215_52, s215_53, s215_54, s215_55, s215_58, s215_60, s215_61, s215_64, s215_65, s215_66, s215_69, s215_70, s215_71, s215_72, s215_73, s215_76, s215_77, s215_80, s215_81, s215_83, s215_85, s215_88, s215_89, s215_92, s215_93, s215_95, s215_98, s215_99, s215_100, s215_101, s215_104, s215_105, s215_108, s215_109, s215_112, s215_114, s215_115, s215_116, s215_117, s215_118, s215_119, s215_120, s215_123, s215_124, s215_127, s215_129, s215_130, s215_131, s215_134, s215_135, s215_138, s215_140, s215_141, s215_142, s215_143, s215_144, s215_145, s215_146, s215_147, s215_150, s215_151, s215_153, s215_154, s215_155, s215_156, s215_157, s215_158, s215_161, s215_162, s215_163, s215_165, s215_168, s215_171, s215_173, s215_174, s215_175, s215_178, s215_181, s215_184, s215_185, s215_186, s215_187, s215_188, s215_191, s215_192, s215_195, s215_196, s215_198, s215_201, s215_202, s215_203, s215_206, s215_207, s215_210, s215_211, s215_212, s215_213, s215_214, s215_217, s215_218, s215_219, s215_222, hf_bd_v, hf_bd_n, hf_iv_i, hf_iv_l, hf_iv_a, hf_iv_n, hf_iv_2, z_lgl, z_lgg, z_lge, z_lgle, z_lgz, Option.getD_some, Option.isSome_some, ↓reduceIte, not_true_eq_false, not_false_eq_true, Option.toList_some, Option.toList_none, List.cons_append, List.nil_append, Nat.reduceAdd, Nat.add_assoc, ku_ne, ku_same, ne_eq, Nat.reduceEqDiff, reduceCtorEq, Nat.add_eq_left, Nat.left_eq_add, Nat.reduceEqDiff, q10, q_ne, true_or, or_true, md_k h, md_r16 h, md_k271 h, md_r17 h, md_k272 h, md_r18 h, md_k273 h, md_r19 h, md_k274 h, md_r20 h, md_k275 h, md_r21 h, md_k276 h, md_r22 h, md_k277 h, md_r23 h, md_k278 h, md_r24 h, md_k279 h, md_r25 h, md_k280 h, md_r26 h, md_k281 h, md_r27 h, md_k282 h, md_r28 h, md_k283 h, md_r29 h, md_k284 h, md_r30 h, md_k285 h, md_r31 h, md_k286 h, md_r33 h, md_k287 h, md_r34 h, md_k288 h, md_r35 h, md_k289 h, md_r36 h, md_k290 h, md_r37 h, md_k291 h, h.1, h9, h10, h11, h12, h15, hst, hd, t1, t2, t3, t4, hx, hy, m_way, m_squares, hroot, ix64, nx100, z_in (show 64 * p + k < 2147483648 by omega), z_cl (show 64 * p + k < 2147483648 by omega), h7, decide_true, c1, c2, c3, c4, decide_false, Bool.and_self, m_partOf, lQ_32, lQ_uv, lQ_uf, lQ_ur, lQ_up, lQ_uh, lQ_un, z_in (show n < 2147483648 by omega), z_cl (show n < 2147483648 by omega), hn, m_down hz, z_1]
      · simp only [s215_0, s215_1, s215_4, s215_5, s215_6, s215_7, s215_8, s215_11, s215_12, s215_15, s215_16, s215_17, s215_20, s215_21, s215_22, s215_23, s215_24, s215_27, s215_28, s215_31, s215_33, s215_34, s215_36, s215_39, s215_42, s215_44, s215_45, s215_48, s215_50, s215_51, s215_52, s215_53, s215_54, s215_55, s215_58, s215_60, s215_61, s215_64, s215_65, s215_66, s215_69, s215_70, s215_71, s215_72, s215_73, s215_76, s215_77, s215_80, s215_81, s215_83, s215_85, s215_88, s215_89, s215_92, s215_93, s215_95, s215_98, s215_99, s215_100, s215_101, s215_104, s215_105, s215_108, s215_109, s215_112, s215_114, s215_115, s215_116, s215_117, s215_118, s215_119, s215_120, s215_123, s215_124, s215_127, s215_129, s215_130, s215_131, s215_134, s215_135, s215_138, s215_140, s215_141, s215_142, s215_143, s215_144, s215_145, s215_146, s215_147, s215_150, s215_151, s215_153, s215_154, s215_155, s215_156, s215_157, s215_158, s215_161, s215_162, s215_163, s215_165, s215_168, s215_171, s215_173, s215_174, s215_175, s215_178, s215_181, s215_184, s215_185, s215_186, s215_187, s215_188, s215_191, s215_192, s215_195, s215_196, s215_198, s215_201, s215_202, s215_203, s215_206, s215_207, s215_210, s215_211, s215_212, s215_213, s215_214, s215_217, s215_218, s215_219, s215_222, hf_bd_v, hf_bd_n, hf_iv_i, hf_iv_l, hf_iv_a, hf_iv_n, hf_iv_2, z_lgl, z_lgg, z_lge, z_lgle, z_lgz, Option.getD_some, Option.isSome_some, ↓reduceIte, not_true_eq_false, not_false_eq_true, Option.toList_some, Option.toList_none, List.cons_append, List.nil_append, Nat.reduceAdd, Nat.add_assoc, ku_ne, ku_same, ne_eq, Nat.reduceEqDiff, reduceCtorEq, Nat.add_eq_left, Nat.left_eq_add, Nat.reduceEqDiff, q10, q_ne, true_or, or_true, md_k h, md_r16 h, md_k271 h, md_r17 h, md_k272 h, md_r18 h, md_k273 h, md_r19 h, md_k274 h, md_r20 h, md_k275 h, md_r21 h, md_k276 h, md_r22 h, md_k277 h, md_r23 h, md_k278 h, md_r24 h, md_k279 h, md_r25 h, md_k280 h, md_r26 h, md_k281 h, md_r27 h, md_k282 h, md_r28 h, md_k283 h, md_r29 h, md_k284 h, md_r30 h, md_k285 h, md_r31 h, md_k286 h, md_r33 h, md_k287 h, md_r34 h, md_k288 h, md_r35 h, md_k289 h, md_r36 h, md_k290 h, md_r37 h, md_k291 h, h.1, h9, h10, h11, h12, h15, hst, hd, t1, t2, hx, hy, m_way, m_squares, hroot, ix64, z_in (show 64 * p + k < 2147483648 by omega), z_cl (show 64 * p + k < 2147483648 by omega), h7, decide_true, c1, c2, c3, decide_false, Bool.and_false, Bool.false_eq_true, m_partOf]
    · simp only [s215_0, s215_1, s215_4, s215_5, s215_6, s215_7, s215_8, s215_11, s215_12, s215_15, s215_16, s215_17, s215_20, s215_21, s215_22, s215_23, s215_24, s215_27, s215_28, s215_31, s215_33, s215_34, s215_36, s215_39, s215_42, s215_44, s215_45, s215_48, s215_50, s215_51, s215_52, s215_53, s215_54, s215_55, s215_58, s215_60, s215_61, s215_64, s215_65, s215_66, s215_69, s215_70, s215_71, s215_72, s215_73, s215_76, s215_77, s215_80, s215_81, s215_83, s215_85, s215_88, s215_89, s215_92, s215_93, s215_95, s215_98, s215_99, s215_100, s215_101, s215_104, s215_105, s215_108, s215_109, s215_112, s215_114, s215_115, s215_116, s215_117, s215_118, s215_119, s215_120, s215_123, s215_124, s215_127, s215_129, s215_130, s215_131, s215_134, s215_135, s215_138, s215_140, s215_141, s215_142, s215_143, s215_144, s215_145, s215_146, s215_147, s215_150, s215_151, s215_153, s215_154, s215_155, s215_156, s215_157, s215_158, s215_161, s215_162, s215_163, s215_165, s215_168, s215_171, s215_173, s215_174, s215_175, s215_178, s215_181, s215_184, s215_185, s215_186, s215_187, s215_188, s215_191, s215_192, s215_195, s215_196, s215_198, s215_201, s215_202, s215_203, s215_206, s215_207, s215_210, s215_211, s215_212, s215_213, s215_214, s215_217, s215_218, s215_219, s215_222, hf_bd_v, hf_bd_n, hf_iv_i, hf_iv_l, hf_iv_a, hf_iv_n, hf_iv_2, z_lgl, z_lgg, z_lge, z_lgle, z_lgz, Option.getD_some, Option.isSome_some, ↓reduceIte, not_true_eq_false, not_false_eq_true, Option.toList_some, Option.toList_none, List.cons_append, List.nil_append, Nat.reduceAdd, Nat.add_assoc, ku_ne, ku_same, ne_eq, Nat.reduceEqDiff, reduceCtorEq, Nat.add_eq_left, Nat.left_eq_add, Nat.reduceEqDiff, q10, q_ne, true_or, or_true, md_k h, md_r16 h, md_k271 h, md_r17 h, md_k272 h, md_r18 h, md_k273 h, md_r19 h, md_k274 h, md_r20 h, md_k275 h, md_r21 h, md_k276 h, md_r22 h, md_k277 h, md_r23 h, md_k278 h, md_r24 h, md_k279 h, md_r25 h, md_k280 h, md_r26 h, md_k281 h, md_r27 h, md_k282 h, md_r28 h, md_k283 h, md_r29 h, md_k284 h, md_r30 h, md_k285 h, md_r31 h, md_k286 h, md_r33 h, md_k287 h, md_r34 h, md_k288 h, md_r35 h, md_k289 h, md_r36 h, md_k290 h, md_r37 h, md_k291 h, h.1, h9, h10, h11, h12, h15, hst, hd, t1, t2, hx, hy, m_way, m_squares, hroot, ix64, z_in (show 64 * p + k < 2147483648 by omega), z_cl (show 64 * p + k < 2147483648 by omega), h7, decide_true, c1, c2, decide_false, Bool.and_false, Bool.false_and, Bool.false_eq_true]
/-- no nearer one has a spectrum -/
def bwI (F : Nat → Int32) (k m : Nat) : Int32 := if F m < F k then F k - F m else F m - F k
def nrI (F Pt H : Nat → Int32) (f : Int32) (k m : Nat) : Bool := decide (¬ H m = 0) && (decide (Pt m = Pt k) && decide (bwI F k m < f))
def frI (F Pt H : Nat → Int32) (f : Int32) (k : Nat) (t : Nat) : Bool := it t true fun m s => s && !nrI F Pt H f k m
theorem m_isFree (h : Md g) (hn : n ≤ 768) (hk : k < 768) : hf_rn 217 0 [some (.ref 270), some (.int (nI k)), none, none, none] [] g (lQ K n W) J = some (.inl (some (.int (bI (frI W.2.1 W.2.2.2.1 W.2.2.2.2 (K 270 14) k n)))), g, lQ K n W, J) := by
  obtain ⟨V, F, R, Pt, H⟩ := W
  dsimp only
  have h14 : ∀ n W, lQ K n W 270 14 = K 270 14 := fun n W => lQ_0 (by decide)
  have loop : ∀ l4, hf_rn 217 4 [some (.ref 270), some (.int (nI k)), some (.int (bI true)), some (.int (nI 0)), l4] [] g (lQ K n (V, F, R, Pt, H)) J = some (.inl (some (.int (bI (frI F Pt H (K 270 14) k n)))), g, lQ K n (V, F, R, Pt, H), J) := by
    refine down (n := n) (s := true) (f := fun m s => s && !nrI F Pt H (K 270 14) k m) (fun t x => ∀ l4, hf_rn 217 4 [some (.ref 270), some (.int (nI k)), some (.int (bI x)), some (.int (nI t)), l4] [] g (lQ K n (V, F, R, Pt, H)) J = some (.inl (some (.int (bI (frI F Pt H (K 270 14) k n)))), g, lQ K n (V, F, R, Pt, H), J)) ?_ ?_
    · intro l4
      rw [show (it n true fun m s => s && !nrI F Pt H (K 270 14) k m) = frI F Pt H (K 270 14) k n from rfl]
      cases frI F Pt H (K 270 14) k n
      · simp only [s217_4, s217_5, s217_6, s217_9, s217_12, s217_13, s217_16, s217_17, s217_18, s217_19, s217_22, s217_23, s217_24, s217_27, s217_28, s217_31, s217_32, s217_33, s217_34, s217_37, s217_38, s217_39, s217_40, s217_43, s217_44, s217_47, s217_48, s217_49, s217_50, s217_53, s217_54, s217_55, s217_56, s217_58, s217_59, s217_62, s217_63, s217_66, s217_67, s217_68, s217_71, s217_72, s217_75, s217_76, s217_77, s217_78, s217_81, s217_82, s217_83, s217_86, s217_88, s217_89, s217_92, s217_95, s217_96, s217_99, s217_100, s217_101, s217_107, s217_108, hf_bd_v, hf_bd_n, hf_iv_i, hf_iv_l, hf_iv_a, hf_iv_n, hf_iv_2, z_lgl, z_lgg, z_lge, z_lgle, z_lgz, Option.getD_some, Option.isSome_some, ↓reduceIte, not_true_eq_false, not_false_eq_true, Option.toList_some, Option.toList_none, List.cons_append, List.nil_append, Nat.reduceAdd, Nat.add_assoc, ku_ne, ku_same, ne_eq, Nat.reduceEqDiff, reduceCtorEq, Nat.add_eq_left, Nat.left_eq_add, Nat.reduceEqDiff, q10, q_ne, true_or, or_true, md_k h, md_r16 h, md_k271 h, md_r17 h, md_k272 h, md_r18 h, md_k273 h, md_r19 h, md_k274 h, md_r20 h, md_k275 h, md_r21 h, md_k276 h, md_r22 h, md_k277 h, md_r23 h, md_k278 h, md_r24 h, md_k279 h, md_r25 h, md_k280 h, md_r26 h, md_k281 h, md_r27 h, md_k282 h, md_r28 h, md_k283 h, md_r29 h, md_k284 h, md_r30 h, md_k285 h, md_r31 h, md_k286 h, md_r33 h, md_k287 h, md_r34 h, md_k288 h, md_r35 h, md_k289 h, md_r36 h, md_k290 h, md_r37 h, md_k291 h, lQ_32, z_ii (show n < 2147483648 by omega) (show n < 2147483648 by omega), Nat.le_refl, bI_f]
      · simp only [s217_4, s217_5, s217_6, s217_9, s217_12, s217_13, s217_16, s217_17, s217_18, s217_19, s217_22, s217_23, s217_24, s217_27, s217_28, s217_31, s217_32, s217_33, s217_34, s217_37, s217_38, s217_39, s217_40, s217_43, s217_44, s217_47, s217_48, s217_49, s217_50, s217_53, s217_54, s217_55, s217_56, s217_58, s217_59, s217_62, s217_63, s217_66, s217_67, s217_68, s217_71, s217_72, s217_75, s217_76, s217_77, s217_78, s217_81, s217_82, s217_83, s217_86, s217_88, s217_89, s217_92, s217_95, s217_96, s217_99, s217_100, s217_101, s217_107, s217_108, hf_bd_v, hf_bd_n, hf_iv_i, hf_iv_l, hf_iv_a, hf_iv_n, hf_iv_2, z_lgl, z_lgg, z_lge, z_lgle, z_lgz, Option.getD_some, Option.isSome_some, ↓reduceIte, not_true_eq_false, not_false_eq_true, Option.toList_some, Option.toList_none, List.cons_append, List.nil_append, Nat.reduceAdd, Nat.add_assoc, ku_ne, ku_same, ne_eq, Nat.reduceEqDiff, reduceCtorEq, Nat.add_eq_left, Nat.left_eq_add, Nat.reduceEqDiff, q10, q_ne, true_or, or_true, md_k h, md_r16 h, md_k271 h, md_r17 h, md_k272 h, md_r18 h, md_k273 h, md_r19 h, md_k274 h, md_r20 h, md_k275 h, md_r21 h, md_k276 h, md_r22 h, md_k277 h, md_r23 h, md_k278 h, md_r24 h, md_k279 h, md_r25 h, md_k280 h, md_r26 h, md_k281 h, md_r27 h, md_k282 h, md_r28 h, md_k283 h, md_r29 h, md_k284 h, md_r30 h, md_k285 h, md_r31 h, md_k286 h, md_r33 h, md_k287 h, md_r34 h, md_k288 h, md_r35 h, md_k289 h, md_r36 h, md_k290 h, md_r37 h, md_k291 h, lQ_32, z_ii (show n < 2147483648 by omega) (show n < 2147483648 by omega), Nat.le_refl, bI_t]
    · intro t x ht hx ih l4
      have hk1 : ¬ n ≤ t := by omega
      have ht7 : t < 768 := by omega
      have e3 : ∀ a b : Int32, (a ≤ b) = ¬ b < a := by intro a b; apply propext; exact ⟨fun h c => I_nle c h, I_le⟩
      have key : ∀ d : Int32, d = bwI F k t → hf_rn 217 58 [some (.ref 270), some (.int (nI k)), some (.int (bI x)), some (.int (nI t)), some (.int d)] [] g (lQ K n (V, F, R, Pt, H)) J = some (.inl (some (.int (bI (frI F Pt H (K 270 14) k n)))), g, lQ K n (V, F, R, Pt, H), J) := by
        intro d hd
        cases x
        · simp only [s217_58, s217_59, s217_62, s217_63, s217_66, s217_67, s217_68, s217_71, s217_72, s217_75, s217_76, s217_77, s217_78, s217_81, s217_82, s217_83, s217_86, s217_88, s217_89, s217_92, s217_95, s217_96, s217_99, s217_100, s217_101, hf_bd_v, hf_bd_n, hf_iv_i, hf_iv_l, hf_iv_a, hf_iv_n, hf_iv_2, z_lgl, z_lgg, z_lge, z_lgle, z_lgz, Option.getD_some, Option.isSome_some, ↓reduceIte, not_true_eq_false, not_false_eq_true, Option.toList_some, Option.toList_none, List.cons_append, List.nil_append, Nat.reduceAdd, Nat.add_assoc, ku_ne, ku_same, ne_eq, Nat.reduceEqDiff, reduceCtorEq, Nat.add_eq_left, Nat.left_eq_add, Nat.reduceEqDiff, q10, q_ne, true_or, or_true, bI_f, z_1]
          rw [s217_104]
          exact ih _
        · by_cases c1 : H t = 0
          · have hh : nrI F Pt H (K 270 14) k t = false := by rw [nrI]; simp [c1]
            rw [hh] at ih
            simp only [s217_58, s217_59, s217_62, s217_63, s217_66, s217_67, s217_68, s217_71, s217_72, s217_75, s217_76, s217_77, s217_78, s217_81, s217_82, s217_83, s217_86, s217_88, s217_89, s217_92, s217_95, s217_96, s217_99, s217_100, s217_101, hf_bd_v, hf_bd_n, hf_iv_i, hf_iv_l, hf_iv_a, hf_iv_n, hf_iv_2, z_lgl, z_lgg, z_lge, z_lgle, z_lgz, Option.getD_some, Option.isSome_some, ↓reduceIte, not_true_eq_false, not_false_eq_true, Option.toList_some, Option.toList_none, List.cons_append, List.nil_append, Nat.reduceAdd, Nat.add_assoc, ku_ne, ku_same, ne_eq, Nat.reduceEqDiff, reduceCtorEq, Nat.add_eq_left, Nat.left_eq_add, Nat.reduceEqDiff, q10, q_ne, true_or, or_true, md_k h, md_r16 h, md_k271 h, md_r17 h, md_k272 h, md_r18 h, md_k273 h, md_r19 h, md_k274 h, md_r20 h, md_k275 h, md_r21 h, md_k276 h, md_r22 h, md_k277 h, md_r23 h, md_k278 h, md_r24 h, md_k279 h, md_r25 h, md_k280 h, md_r26 h, md_k281 h, md_r27 h, md_k282 h, md_r28 h, md_k283 h, md_r29 h, md_k284 h, md_r30 h, md_k285 h, md_r31 h, md_k286 h, md_r33 h, md_k287 h, md_r34 h, md_k288 h, md_r35 h, md_k289 h, md_r36 h, md_k290 h, md_r37 h, md_k291 h, bI_t, z_1, lQ_h, z_in (show t < 2147483648 by omega), z_cl (show t < 2147483648 by omega), ht7, decide_true, c1]
            rw [s217_104]
            exact ih _
          · by_cases c2 : Pt t = Pt k
            · by_cases c3 : d < K 270 14
              · have hh : nrI F Pt H (K 270 14) k t = true := by rw [nrI, ← hd]; simp [c1, c2, c3]
                rw [hh] at ih
                simp only [s217_58, s217_59, s217_62, s217_63, s217_66, s217_67, s217_68, s217_71, s217_72, s217_75, s217_76, s217_77, s217_78, s217_81, s217_82, s217_83, s217_86, s217_88, s217_89, s217_92, s217_95, s217_96, s217_99, s217_100, s217_101, hf_bd_v, hf_bd_n, hf_iv_i, hf_iv_l, hf_iv_a, hf_iv_n, hf_iv_2, z_lgl, z_lgg, z_lge, z_lgle, z_lgz, Option.getD_some, Option.isSome_some, ↓reduceIte, not_true_eq_false, not_false_eq_true, Option.toList_some, Option.toList_none, List.cons_append, List.nil_append, Nat.reduceAdd, Nat.add_assoc, ku_ne, ku_same, ne_eq, Nat.reduceEqDiff, reduceCtorEq, Nat.add_eq_left, Nat.left_eq_add, Nat.reduceEqDiff, q10, q_ne, true_or, or_true, md_k h, md_r16 h, md_k271 h, md_r17 h, md_k272 h, md_r18 h, md_k273 h, md_r19 h, md_k274 h, md_r20 h, md_k275 h, md_r21 h, md_k276 h, md_r22 h, md_k277 h, md_r23 h, md_k278 h, md_r24 h, md_k279 h, md_r25 h, md_k280 h, md_r26 h, md_k281 h, md_r27 h, md_k282 h, md_r28 h, md_k283 h, md_r29 h, md_k284 h, md_r30 h, md_k285 h, md_r31 h, md_k286 h, md_r33 h, md_k287 h, md_r34 h, md_k288 h, md_r35 h, md_k289 h, md_r36 h, md_k290 h, md_r37 h, md_k291 h, bI_t, z_1, lQ_h, lQ_p, h14, z_in (show t < 2147483648 by omega), z_cl (show t < 2147483648 by omega), ht7, z_in (show k < 2147483648 by omega), z_cl (show k < 2147483648 by omega), hk, decide_true, c1, c2, c3]
                rw [s217_104]
                exact ih _
              · have hh : nrI F Pt H (K 270 14) k t = false := by rw [nrI, ← hd]; simp [c3]
                rw [hh] at ih
                simp only [s217_58, s217_59, s217_62, s217_63, s217_66, s217_67, s217_68, s217_71, s217_72, s217_75, s217_76, s217_77, s217_78, s217_81, s217_82, s217_83, s217_86, s217_88, s217_89, s217_92, s217_95, s217_96, s217_99, s217_100, s217_101, hf_bd_v, hf_bd_n, hf_iv_i, hf_iv_l, hf_iv_a, hf_iv_n, hf_iv_2, z_lgl, z_lgg, z_lge, z_lgle, z_lgz, Option.getD_some, Option.isSome_some, ↓reduceIte, not_true_eq_false, not_false_eq_true, Option.toList_some, Option.toList_none, List.cons_append, List.nil_append, Nat.reduceAdd, Nat.add_assoc, ku_ne, ku_same, ne_eq, Nat.reduceEqDiff, reduceCtorEq, Nat.add_eq_left, Nat.left_eq_add, Nat.reduceEqDiff, q10, q_ne, true_or, or_true, md_k h, md_r16 h, md_k271 h, md_r17 h, md_k272 h, md_r18 h, md_k273 h, md_r19 h, md_k274 h, md_r20 h, md_k275 h, md_r21 h, md_k276 h, md_r22 h, md_k277 h, md_r23 h, md_k278 h, md_r24 h, md_k279 h, md_r25 h, md_k280 h, md_r26 h, md_k281 h, md_r27 h, md_k282 h, md_r28 h, md_k283 h, md_r29 h, md_k284 h, md_r30 h, md_k285 h, md_r31 h, md_k286 h, md_r33 h, md_k287 h, md_r34 h, md_k288 h, md_r35 h, md_k289 h, md_r36 h, md_k290 h, md_r37 h, md_k291 h, bI_t, z_1, lQ_h, lQ_p, h14, z_in (show t < 2147483648 by omega), z_cl (show t < 2147483648 by omega), ht7, z_in (show k < 2147483648 by omega), z_cl (show k < 2147483648 by omega), hk, decide_true, c1, c2, c3]
                rw [s217_104]
                exact ih _
            · have hh : nrI F Pt H (K 270 14) k t = false := by rw [nrI]; simp [c2]
              rw [hh] at ih
              simp only [s217_58, s217_59, s217_62, s217_63, s217_66, s217_67, s217_68, s217_71, s217_72, s217_75, s217_76, s217_77, s217_78, s217_81, s217_82, s217_83, s217_86, s217_88, s217_89, s217_92, s217_95, s217_96, s217_99, s217_100, s217_101, hf_bd_v, hf_bd_n, hf_iv_i, hf_iv_l, hf_iv_a, hf_iv_n, hf_iv_2, z_lgl, z_lgg, z_lge, z_lgle, z_lgz, Option.getD_some, Option.isSome_some, ↓reduceIte, not_true_eq_false, not_false_eq_true, Option.toList_some, Option.toList_none, List.cons_append, List.nil_append, Nat.reduceAdd, Nat.add_assoc, ku_ne, ku_same, ne_eq, Nat.reduceEqDiff, reduceCtorEq, Nat.add_eq_left, Nat.left_eq_add, Nat.reduceEqDiff, q10, q_ne, true_or, or_true, md_k h, md_r16 h, md_k271 h, md_r17 h, md_k272 h, md_r18 h, md_k273 h, md_r19 h, md_k274 h, md_r20 h, md_k275 h, md_r21 h, md_k276 h, md_r22 h, md_k277 h, md_r23 h, md_k278 h, md_r24 h, md_k279 h, md_r25 h, md_k280 h, md_r26 h, md_k281 h, md_r27 h, md_k282 h, md_r28 h, md_k283 h, md_r29 h, md_k284 h, md_r30 h, md_k285 h, md_r31 h, md_k286 h, md_r33 h, md_k287 h, md_r34 h, md_k288 h, md_r35 h, md_k289 h, md_r36 h, md_k290 h, md_r37 h, md_k291 h, bI_t, z_1, lQ_h, lQ_p, h14, z_in (show t < 2147483648 by omega), z_cl (show t < 2147483648 by omega), ht7, z_in (show k < 2147483648 by omega), z_cl (show k < 2147483648 by omega), hk, decide_true, c1, c2]
              rw [s217_104]
              exact ih _
      by_cases c0 : F t < F k
      · simp only [s217_4, s217_5, s217_6, s217_9, s217_12, s217_13, s217_16, s217_17, s217_18, s217_19, s217_22, s217_23, s217_24, s217_27, s217_28, s217_31, s217_32, s217_33, s217_34, s217_37, s217_38, s217_39, s217_40, s217_43, s217_44, s217_47, s217_48, s217_49, s217_50, s217_53, s217_54, s217_55, s217_56, hf_bd_v, hf_bd_n, hf_iv_i, hf_iv_l, hf_iv_a, hf_iv_n, hf_iv_2, z_lgl, z_lgg, z_lge, z_lgle, z_lgz, Option.getD_some, Option.isSome_some, ↓reduceIte, not_true_eq_false, not_false_eq_true, Option.toList_some, Option.toList_none, List.cons_append, List.nil_append, Nat.reduceAdd, Nat.add_assoc, ku_ne, ku_same, ne_eq, Nat.reduceEqDiff, reduceCtorEq, Nat.add_eq_left, Nat.left_eq_add, Nat.reduceEqDiff, q10, q_ne, true_or, or_true, md_k h, md_r16 h, md_k271 h, md_r17 h, md_k272 h, md_r18 h, md_k273 h, md_r19 h, md_k274 h, md_r20 h, md_k275 h, md_r21 h, md_k276 h, md_r22 h, md_k277 h, md_r23 h, md_k278 h, md_r24 h, md_k279 h, md_r25 h, md_k280 h, md_r26 h, md_k281 h, md_r27 h, md_k282 h, md_r28 h, md_k283 h, md_r29 h, md_k284 h, md_r30 h, md_k285 h, md_r31 h, md_k286 h, md_r33 h, md_k287 h, md_r34 h, md_k288 h, md_r35 h, md_k289 h, md_r36 h, md_k290 h, md_r37 h, md_k291 h, lQ_32, lQ_f, z_ii (show n < 2147483648 by omega) (show t < 2147483648 by omega), hk1, e3, z_in (show t < 2147483648 by omega), z_cl (show t < 2147483648 by omega), ht7, z_in (show k < 2147483648 by omega), z_cl (show k < 2147483648 by omega), hk, decide_true, c0]
        exact key _ (by rw [bwI, if_pos c0])
      · simp only [s217_4, s217_5, s217_6, s217_9, s217_12, s217_13, s217_16, s217_17, s217_18, s217_19, s217_22, s217_23, s217_24, s217_27, s217_28, s217_31, s217_32, s217_33, s217_34, s217_37, s217_38, s217_39, s217_40, s217_43, s217_44, s217_47, s217_48, s217_49, s217_50, s217_53, s217_54, s217_55, s217_56, hf_bd_v, hf_bd_n, hf_iv_i, hf_iv_l, hf_iv_a, hf_iv_n, hf_iv_2, z_lgl, z_lgg, z_lge, z_lgle, z_lgz, Option.getD_some, Option.isSome_some, ↓reduceIte, not_true_eq_false, not_false_eq_true, Option.toList_some, Option.toList_none, List.cons_append, List.nil_append, Nat.reduceAdd, Nat.add_assoc, ku_ne, ku_same, ne_eq, Nat.reduceEqDiff, reduceCtorEq, Nat.add_eq_left, Nat.left_eq_add, Nat.reduceEqDiff, q10, q_ne, true_or, or_true, md_k h, md_r16 h, md_k271 h, md_r17 h, md_k272 h, md_r18 h, md_k273 h, md_r19 h, md_k274 h, md_r20 h, md_k275 h, md_r21 h, md_k276 h, md_r22 h, md_k277 h, md_r23 h, md_k278 h, md_r24 h, md_k279 h, md_r25 h, md_k280 h, md_r26 h, md_k281 h, md_r27 h, md_k282 h, md_r28 h, md_k283 h, md_r29 h, md_k284 h, md_r30 h, md_k285 h, md_r31 h, md_k286 h, md_r33 h, md_k287 h, md_r34 h, md_k288 h, md_r35 h, md_k289 h, md_r36 h, md_k290 h, md_r37 h, md_k291 h, lQ_32, lQ_f, z_ii (show n < 2147483648 by omega) (show t < 2147483648 by omega), hk1, e3, z_in (show t < 2147483648 by omega), z_cl (show t < 2147483648 by omega), ht7, z_in (show k < 2147483648 by omega), z_cl (show k < 2147483648 by omega), hk, decide_true, c0]
        exact key _ (by rw [bwI, if_neg c0])
  simp only [s217_0, s217_1, s217_2, s217_3, hf_bd_v, hf_bd_n, hf_iv_i, hf_iv_l, hf_iv_a, hf_iv_n, hf_iv_2, z_lgl, z_lgg, z_lge, z_lgle, z_lgz, Option.getD_some, Option.isSome_some, ↓reduceIte, not_true_eq_false, not_false_eq_true, Option.toList_some, Option.toList_none, List.cons_append, List.nil_append, Nat.reduceAdd, Nat.add_assoc, ku_ne, ku_same, ne_eq, Nat.reduceEqDiff, reduceCtorEq, Nat.add_eq_left, Nat.left_eq_add, Nat.reduceEqDiff, q10, q_ne, true_or, or_true]
  exact loop _
end
