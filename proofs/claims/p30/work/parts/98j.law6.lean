/-! THE LAW: what is done in a turn -/
section
variable {L t x3 x2 k m s a b c d w n : Nat} {xs : Nat → Int32} {σ σ2 : Sg} {g g2 : hf_G} {I I2 : hf_I} {J J2 : hf_J} {i j kx ky ki kj x y : Int32} {R : R4} {f : Nat → Nat} {l6 l7 : Option Value}
theorem GA.q (hA : GA σ I J x3) (h0 : f 0 = sq σ 0) (h1 : f 1 = sq σ 1) (h2 : f 2 = sq σ 2) (h15 : f 15 = sq σ 15) (hI : I2 270 0 = I 270 0 ∧ I2 270 1 = I 270 1 ∧ I2 270 2 = I 270 2 ∧ I2 270 3 = nI x2) (he : I2 271 0 = nI (f 13) ∧ I2 271 1 = nI (f 14) ∧ I2 271 2 = nI (f 12)) (hJ : J2 272 = J 272) : GA (sgq σ f) I2 J2 x2 := by
  obtain ⟨⟨a0, a1, a2, a3⟩, ⟨b0, b1, b2⟩, c0, c1⟩ := hA
  obtain ⟨d0, d1, d2, d3⟩ := hI
  have e1 : sN (sgq σ f) = sN σ := h1
  have e2 : sP (sgq σ f) = sP σ := h15
  refine ⟨⟨?_, ?_, ?_, d3⟩, he, ?_, ?_⟩
  · rw [d0, a0]; exact congrArg nI h0.symm
  · rw [d1, a1]; exact congrArg nI h2.symm
  · rw [d2, a2, e2]
  · rw [hJ, c0, e1]; rfl
  · rw [hJ, c1, e1]; rfl
theorem Lm.q (hm : Lm σ x3 t) (h0 : f 0 = sq σ 0) (h2 : f 2 = sq σ 2) (h15 : f 15 = sq σ 15) (hx : x2 ≤ x3 + 7) : Lm (sgq σ f) x2 (t + 1) := by
  obtain ⟨m1, m2, m3, m4⟩ := hm
  have e0 : sq (sgq σ f) 0 = sq σ 0 := h0
  have e1 : sq (sgq σ f) 2 = sq σ 2 := h2
  have e2 : sP (sgq σ f) = sP σ := h15
  unfold Lm
  rw [e0, e1, e2]
  exact ⟨m1, m2, by omega, by omega⟩
theorem li_n (h : LI L xs σ g I J t) (ht : t ≤ 60) : hf_n g + 200 < 1000000 := by
  have := h.2.2.2.2.2.1
  omega
theorem ac_pull (h : LI L xs σ g I J t) (ht : t ≤ 60) : Ac L xs t (hf_rn 182 34 [some (.ref 0), some (.ref 270), some (.ref 271), some (.ref 272), some (.int x), some (.int y), l6, l7] [] g I J) := by
  have hn6 := li_n h ht
  have h' := h
  obtain ⟨hσ, hL, hC, hF, ⟨x3, hA, hm⟩, hB⟩ := h'
  have hA' := hA
  obtain ⟨⟨a0, a1, a2, a3⟩, ⟨b0, b1, b2⟩, c0, c1⟩ := hA'
  obtain ⟨f1, f2, f3, f4, f5, f6, f7, f8⟩ := hF
  have hx := lay_hx hL
  have hx4 := hm.2.2.2
  obtain ⟨a, ha, la⟩ := l_low y (n := 10001) (by decide) (by decide)
  obtain ⟨b, hb, lb⟩ := l_low (y >>> (14 &&& 31)) (n := 991) (by decide) (by decide)
  rw [show nI 10001 = 10001 from rfl] at la
  rw [show nI 991 = 991 from rfl] at lb
  obtain ⟨s1, I3, J3, r1, r2, r3⟩ := k_pull (a := a) (b := 10 + b) hσ hL hC ⟨Nat.zero_le _, by omega⟩ ⟨by omega, by omega⟩
  have r4 := w_pull hx r1
  have e10 : (10 : Int32) + nI b = nI (10 + b) := by rw [show (10 : Int32) = nI 10 from rfl, nI_add]
  obtain ⟨k, I4, J4, q1, q2, q3, q4⟩ := l_areForces (s := sq σ 0) (a := x3) s1 hL r2 f3 (by rw [r3.ii (by decide)]; exact a0) hσ.1.2 (by rw [r3.ii (by decide)]; exact a3) (by omega)
  have hI : ∀ a j, 270 ≤ a → ¬ (a = 270 ∧ j = 3) → I4 a j = I a j := fun a j ha hne => by
    rw [q4.ii ha]
    by_cases e : a = 270
    · subst e
      rw [ku_ix (fun e => hne ⟨rfl, e⟩), r3.ii ha]
    · rw [ku_ne e, r3.ii ha]
  refine ⟨_, tg k g, I4, J4, ?_, h.go (x2 := x3 + 1) s1 (hL.tg (by omega)) q3 (Gw.tg f1 (by omega) (by omega)) (funext fun j => hI _ j (by decide) (by omega)) (funext fun j => hI _ j (by decide) (by omega)) (hA.q rfl rfl rfl rfl ⟨hI _ _ (by decide) (by decide), hI _ _ (by decide) (by decide), hI _ _ (by decide) (by decide), ?_⟩ ⟨?_, ?_, ?_⟩ ?_) (hm.q rfl rfl rfl (by omega))⟩
  · simp only [s182_34, s182_35, s182_37, s182_40, s182_43, s182_45, s182_47, s182_49, s182_50, s182_53, s182_56, s182_57, s182_60, s182_63, s182_64, s182_65, s182_68, s182_71, s182_72, s182_75, s182_76, hf_bd_v, hf_bd_n, hf_iv_i, hf_iv_l, hf_iv_a, hf_iv_n, hf_iv_2, z_lgl, z_lgg, z_lge, z_lgle, z_lgz, Option.getD_some, Option.isSome_some, ↓reduceIte, not_true_eq_false, not_false_eq_true, Option.toList_some, Option.toList_none, List.cons_append, List.nil_append, Nat.reduceAdd, Nat.add_assoc, ku_ne, ku_same, ne_eq, Nat.reduceEqDiff, reduceCtorEq, Nat.add_eq_left, Nat.left_eq_add, Nat.reduceEqDiff, q10, q_ne, true_or, or_true, la, lb, e10, r4, q2]
  · rw [q4.ii (by decide), ku_same]
  · rw [hI _ _ (by decide) (by decide)]; exact b0
  · rw [hI _ _ (by decide) (by decide)]; exact b1
  · rw [hI _ _ (by decide) (by decide)]; exact b2
  · rw [q4.jj (by decide), r3.jj (by decide)]
theorem ac_link (h : LI L xs σ g I J t) : Ac L xs t (hf_rn 182 83 [some (.ref 0), some (.ref 270), some (.ref 271), some (.ref 272), some (.int x), some (.int y), l6, l7] [] g I J) := by
  have h' := h
  obtain ⟨hσ, hL, hC, hF, ⟨x3, hA, hm⟩, hB⟩ := h'
  have hA' := hA
  obtain ⟨⟨a0, a1, a2, a3⟩, ⟨b0, b1, b2⟩, c0, c1⟩ := hA'
  obtain ⟨a, ha, la⟩ := l_low y (n := 1200) (by decide) (by decide)
  obtain ⟨b, hb, lb⟩ := l_low (y >>> (11 &&& 31)) (n := 5) (by decide) (by decide)
  rw [show nI 1200 = 1200 from rfl] at la
  rw [show nI 5 = 5 from rfl] at lb
  obtain ⟨s1, I3, J3, r1, r2, r3⟩ := k_link (a := 1 + a) (b := 1 + b) hσ hL hC ⟨by omega, by omega⟩ ⟨by omega, by omega⟩
  have r4 := w_link (lay_hx hL) r1
  have e1 : ∀ z, (1 : Int32) + nI z = nI (1 + z) := fun z => by rw [show (1 : Int32) = nI 1 from rfl, nI_add]
  refine ⟨_, g, I3, J3, ?_, h.go (x2 := x3) s1 hL r2 (Gw.r hF.1) (r3.ii (by decide)) (r3.ii (by decide)) (hA.q rfl rfl rfl rfl ⟨by rw [r3.ii (by decide)], by rw [r3.ii (by decide)], by rw [r3.ii (by decide)], by rw [r3.ii (by decide)]; exact a3⟩ ⟨by rw [r3.ii (by decide)]; exact b0, by rw [r3.ii (by decide)]; exact b1, by rw [r3.ii (by decide)]; exact b2⟩ (r3.jj (by decide))) (hm.q rfl rfl rfl (by omega))⟩
  simp only [s182_83, s182_84, s182_85, s182_87, s182_90, s182_93, s182_94, s182_95, s182_97, s182_99, s182_100, s182_101, s182_104, s182_105, s182_108, s182_111, s182_112, s182_115, s182_116, hf_bd_v, hf_bd_n, hf_iv_i, hf_iv_l, hf_iv_a, hf_iv_n, hf_iv_2, z_lgl, z_lgg, z_lge, z_lgle, z_lgz, Option.getD_some, Option.isSome_some, ↓reduceIte, not_true_eq_false, not_false_eq_true, Option.toList_some, Option.toList_none, List.cons_append, List.nil_append, Nat.reduceAdd, Nat.add_assoc, ku_ne, ku_same, ne_eq, Nat.reduceEqDiff, reduceCtorEq, Nat.add_eq_left, Nat.left_eq_add, Nat.reduceEqDiff, q10, q_ne, true_or, or_true, la, lb, e1, r4]
theorem ac_recipes (h : LI L xs σ g I J t) : Ac L xs t (hf_rn 182 123 [some (.ref 0), some (.ref 270), some (.ref 271), some (.ref 272), some (.int x), some (.int y), l6, l7] [] g I J) := by
  have h' := h
  obtain ⟨hσ, hL, hC, hF, ⟨x3, hA, hm⟩, hB⟩ := h'
  have hA' := hA
  obtain ⟨⟨a0, a1, a2, a3⟩, ⟨b0, b1, b2⟩, c0, c1⟩ := hA'
  obtain ⟨a, ha, la⟩ := l_low y (n := 1001) (by decide) (by decide)
  obtain ⟨b, hb, lb⟩ := l_low (y >>> (10 &&& 31)) (n := 1001) (by decide) (by decide)
  obtain ⟨c, hc, lc⟩ := l_low (y >>> (20 &&& 31)) (n := 2000) (by decide) (by decide)
  rw [show nI 1001 = 1001 from rfl] at la lb
  rw [show nI 2000 = 2000 from rfl] at lc
  obtain ⟨s1, I3, J3, r1, r2, r3⟩ := k_recipes (a := a) (b := b) (d := c) hσ hL hC (by omega) (by omega) (by omega)
  have r4 := w_recipes (lay_hx hL) r1
  refine ⟨_, g, I3, J3, ?_, h.go (x2 := x3) s1 hL r2 (Gw.r hF.1) (r3.ii (by decide)) (r3.ii (by decide)) (hA.q rfl rfl rfl rfl ⟨by rw [r3.ii (by decide)], by rw [r3.ii (by decide)], by rw [r3.ii (by decide)], by rw [r3.ii (by decide)]; exact a3⟩ ⟨by rw [r3.ii (by decide)]; exact b0, by rw [r3.ii (by decide)]; exact b1, by rw [r3.ii (by decide)]; exact b2⟩ (r3.jj (by decide))) (hm.q rfl rfl rfl (by omega))⟩
  simp only [s182_123, s182_124, s182_126, s182_129, s182_132, s182_134, s182_136, s182_137, s182_140, s182_143, s182_145, s182_147, s182_148, s182_151, s182_154, s182_157, s182_160, s182_161, s182_164, s182_165, hf_bd_v, hf_bd_n, hf_iv_i, hf_iv_l, hf_iv_a, hf_iv_n, hf_iv_2, z_lgl, z_lgg, z_lge, z_lgle, z_lgz, Option.getD_some, Option.isSome_some, ↓reduceIte, not_true_eq_false, not_false_eq_true, Option.toList_some, Option.toList_none, List.cons_append, List.nil_append, Nat.reduceAdd, Nat.add_assoc, ku_ne, ku_same, ne_eq, Nat.reduceEqDiff, reduceCtorEq, Nat.add_eq_left, Nat.left_eq_add, Nat.reduceEqDiff, q10, q_ne, true_or, or_true, la, lb, lc, r4]
theorem ac_survey (h : LI L xs σ g I J t) : Ac L xs t (hf_rn 182 172 [some (.ref 0), some (.ref 270), some (.ref 271), some (.ref 272), some (.int x), some (.int y), l6, l7] [] g I J) := by
  have h' := h
  obtain ⟨hσ, hL, hC, hF, ⟨x3, hA, hm⟩, hB⟩ := h'
  have hA' := hA
  obtain ⟨⟨a0, a1, a2, a3⟩, ⟨b0, b1, b2⟩, c0, c1⟩ := hA'
  obtain ⟨f1, f2, f3, f4, f5, f6, f7, f8⟩ := hF
  obtain ⟨a, ha, la⟩ := l_low y (n := 256) (by decide) (by decide)
  obtain ⟨b, hb, lb⟩ := l_low (y >>> (8 &&& 31)) (n := 2000) (by decide) (by decide)
  rw [show nI 256 = 256 from rfl] at la
  rw [show nI 2000 = 2000 from rfl] at lb
  have hC2 : RC σ (hf_u (hf_u I 271 0 (nI a)) 271 1 (nI b)) J := RC_u hσ (RC_u hσ hC (by decide)) (by decide)
  obtain ⟨s1, I3, J3, r1, r2, r3⟩ := k_survey (a := a) (b := b) hσ hL hC2 ⟨Nat.zero_le _, by omega⟩ ⟨Nat.zero_le _, by omega⟩
  have r4 := w_survey (lay_hx hL) r1
  have hI : ∀ c, 270 ≤ c → c ≠ 271 → I3 c = I c := fun c hc hne => by rw [r3.ii hc, ku_ne hne, ku_ne hne]
  have g0 : hf_u (hf_u I 271 0 (nI a)) 271 1 (nI b) 271 0 = nI a := by rw [ku_ix (by decide), ku_same]
  refine ⟨_, g, I3, J3, ?_, h.go (x2 := x3) s1 hL r2 (Gw.r f1) (hI _ (by decide) (by decide)) (hI _ (by decide) (by decide)) (hA.q rfl rfl rfl rfl ⟨by rw [hI _ (by decide) (by decide)], by rw [hI _ (by decide) (by decide)], by rw [hI _ (by decide) (by decide)], by rw [hI _ (by decide) (by decide)]; exact a3⟩ ⟨?_, ?_, ?_⟩ (r3.jj (by decide))) (hm.q rfl rfl rfl (by omega))⟩
  · simp only [s182_172, s182_173, s182_174, s182_176, s182_179, s182_182, s182_183, s182_184, s182_185, s182_187, s182_189, s182_190, s182_193, s182_196, s182_197, s182_198, s182_199, s182_200, s182_201, s182_202, s182_203, s182_204, s182_207, s182_210, s182_211, s182_214, s182_215, hf_bd_v, hf_bd_n, hf_iv_i, hf_iv_l, hf_iv_a, hf_iv_n, hf_iv_2, z_lgl, z_lgg, z_lge, z_lgle, z_lgz, Option.getD_some, Option.isSome_some, ↓reduceIte, not_true_eq_false, not_false_eq_true, Option.toList_some, Option.toList_none, List.cons_append, List.nil_append, Nat.reduceAdd, Nat.add_assoc, ku_ne, ku_same, ne_eq, Nat.reduceEqDiff, reduceCtorEq, Nat.add_eq_left, Nat.left_eq_add, Nat.reduceEqDiff, q10, q_ne, true_or, or_true, la, lb, f4, z_30, z_31, z_c0, z_c1, g0, ku_same, r4]
  · rw [r3.ii (by decide), g0]; rfl
  · rw [r3.ii (by decide), ku_same]; rfl
  · rw [r3.ii (by decide), ku_ix (by decide), ku_ix (by decide)]; exact b2
theorem ac_observe (h : LI L xs σ g I J t) : Ac L xs t (hf_rn 182 223 [some (.ref 0), some (.ref 270), some (.ref 271), some (.ref 272), some (.int x), some (.int y), l6, l7] [] g I J) := by
  have h' := h
  obtain ⟨hσ, hL, hC, hF, ⟨x3, hA, hm⟩, hB⟩ := h'
  have hA' := hA
  obtain ⟨⟨a0, a1, a2, a3⟩, ⟨b0, b1, b2⟩, c0, c1⟩ := hA'
  obtain ⟨f1, f2, f3, f4, f5, f6, f7, f8⟩ := hF
  obtain ⟨c, hc, lc⟩ := l_low y (n := 4000) (by decide) (by decide)
  obtain ⟨a, ha, la⟩ := l_low (y >>> (12 &&& 31)) (n := 4096) (by decide) (by decide)
  obtain ⟨b, hb, lb⟩ := l_low (x >>> (4 &&& 31)) (n := 4096) (by decide) (by decide)
  rw [show nI 4000 = 4000 from rfl] at lc
  rw [show nI 4096 = 4096 from rfl] at la lb
  have hC2 : RC σ (hf_u I 271 2 (nI (1 + c))) J := RC_u hσ hC (by decide)
  obtain ⟨s1, I3, J3, r1, r2, r3⟩ := k_observe (a := a) (b := b) (d := 1 + c) hσ hL hC2 (by omega) (by omega) ⟨by omega, by omega⟩
  have r4 := w_observe (lay_hx hL) r1
  have e1 : ∀ z, (1 : Int32) + nI z = nI (1 + z) := fun z => by rw [show (1 : Int32) = nI 1 from rfl, nI_add]
  have hI : ∀ c, 270 ≤ c → c ≠ 271 → I3 c = I c := fun c hc hne => by rw [r3.ii hc, ku_ne hne]
  refine ⟨_, g, I3, J3, ?_, h.go (x2 := x3) s1 hL r2 (Gw.r f1) (hI _ (by decide) (by decide)) (hI _ (by decide) (by decide)) (hA.q rfl rfl rfl rfl ⟨by rw [hI _ (by decide) (by decide)], by rw [hI _ (by decide) (by decide)], by rw [hI _ (by decide) (by decide)], by rw [hI _ (by decide) (by decide)]; exact a3⟩ ⟨?_, ?_, ?_⟩ (r3.jj (by decide))) (hm.q rfl rfl rfl (by omega))⟩
  · simp only [s182_223, s182_224, s182_225, s182_226, s182_228, s182_231, s182_234, s182_235, s182_236, s182_237, s182_239, s182_241, s182_242, s182_245, s182_248, s182_250, s182_251, s182_252, s182_255, s182_258, s182_259, s182_260, s182_261, s182_264, s182_267, s182_268, s182_271, s182_272, hf_bd_v, hf_bd_n, hf_iv_i, hf_iv_l, hf_iv_a, hf_iv_n, hf_iv_2, z_lgl, z_lgg, z_lge, z_lgle, z_lgz, Option.getD_some, Option.isSome_some, ↓reduceIte, not_true_eq_false, not_false_eq_true, Option.toList_some, Option.toList_none, List.cons_append, List.nil_append, Nat.reduceAdd, Nat.add_assoc, ku_ne, ku_same, ne_eq, Nat.reduceEqDiff, reduceCtorEq, Nat.add_eq_left, Nat.left_eq_add, Nat.reduceEqDiff, q10, q_ne, true_or, or_true, la, lb, lc, e1, f4, z_32, z_c2, ku_same, r4]
  · rw [r3.ii (by decide), ku_ix (by decide)]; exact b0
  · rw [r3.ii (by decide), ku_ix (by decide)]; exact b1
  · rw [r3.ii (by decide), ku_same]; rfl
theorem ac_counts (h : LI L xs σ g I J t) (ht : t ≤ 60) : Ac L xs t (hf_rn 182 446 [some (.ref 0), some (.ref 270), some (.ref 271), some (.ref 272), some (.int x), some (.int y), l6, l7] [] g I J) := by
  have hn6 := li_n h ht
  have h' := h
  obtain ⟨hσ, hL, hC, hF, ⟨x3, hA, hm⟩, hB⟩ := h'
  have hA' := hA
  obtain ⟨⟨a0, a1, a2, a3⟩, ⟨b0, b1, b2⟩, c0, c1⟩ := hA'
  obtain ⟨f1, f2, f3, f4, f5, f6, f7, f8⟩ := hF
  obtain ⟨k, I3, J3, q1, q2, q3, q4⟩ := l_areCounts (y := y) hσ hL hC f3 a0 hσ.1.2
  have hL3 : Lay (tg k g) := hL.tg (by omega)
  obtain ⟨k2, I4, J4, r1, r2, r3, r4⟩ := l_areHalos (i := -1) (s := 12) hσ hL3 (by rw [tg_n k (by omega)]; omega) q3 (by rw [tg_k]; exact f3) (by rw [q4.ii (by decide)]; exact a0) (Or.inl ⟨rfl, rfl⟩) (Or.inl rfl)
  have hq := kC.t q4 r4
  rw [tg_t] at r2
  refine ⟨σ, tg (k + k2) g, I4, J4, ?_, h.go (x2 := x3) hσ (hL.tg (by omega)) r3 (Gw.tg f1 (by omega) (by omega)) (hq.ii (by decide)) (hq.ii (by decide)) ⟨⟨by rw [hq.ii (by decide)]; exact a0, by rw [hq.ii (by decide)]; exact a1, by rw [hq.ii (by decide)]; exact a2, by rw [hq.ii (by decide)]; exact a3⟩, ⟨by rw [hq.ii (by decide)]; exact b0, by rw [hq.ii (by decide)]; exact b1, by rw [hq.ii (by decide)]; exact b2⟩, by rw [hq.jj (by decide)]; exact c0, by rw [hq.jj (by decide)]; exact c1⟩ (by
    obtain ⟨m1, m2, m3, m4⟩ := hm
    exact ⟨m1, m2, by omega, by omega⟩)⟩
  simp only [s182_446, s182_447, s182_448, s182_450, s182_453, s182_456, s182_457, s182_458, s182_459, s182_462, s182_465, s182_466, s182_469, s182_470, hf_bd_v, hf_bd_n, hf_iv_i, hf_iv_l, hf_iv_a, hf_iv_n, hf_iv_2, z_lgl, z_lgg, z_lge, z_lgle, z_lgz, Option.getD_some, Option.isSome_some, ↓reduceIte, not_true_eq_false, not_false_eq_true, Option.toList_some, Option.toList_none, List.cons_append, List.nil_append, Nat.reduceAdd, Nat.add_assoc, ku_ne, ku_same, ne_eq, Nat.reduceEqDiff, reduceCtorEq, Nat.add_eq_left, Nat.left_eq_add, Nat.reduceEqDiff, q10, q_ne, true_or, or_true, q2, r2]
theorem li_64 (hσ : SOK σ) (hm : Lm σ x3 t) : sN σ * sP σ ≤ 64 := by
  have h1 : sN σ = sq σ 0 * sq σ 0 := hσ.1.2
  have h2 : sq σ 0 * sq σ 0 ≤ 4 * 4 := Nat.mul_le_mul hm.1 hm.1
  rw [h1]
  exact Nat.mul_le_mul h2 hm.2.1
/-- trees and the sky, one behind the other -/
theorem tr_sky (hσ : SOK σ) (hL : Lay g) (hn : hf_n g + 100 < 1000000) (hC : RC σ I J) (hF : FR L xs g I) (a0 : I 270 0 = nI (sq σ 0)) (a2 : I 270 2 = nI (sP σ)) (hsz : sN σ * sP σ ≤ 64) : ∃ g1 I1 J1, hf_rn 177 0 [some (.ref 0), some (.ref 270), none, none, none, none, none, none, none, none, none, none, none, none] [] g I J = some (.inl (some (.int 1)), g1, I1, J1) ∧ kC I I1 J J1 ∧ hf_k g1 = hf_k g ∧ ∃ g2 I2 J2, hf_rn 178 0 [some (.ref 0), some (.ref 270), some (.int (nI (sq σ 13))), some (.int (nI (sq σ 14))), some (.int (nI (sq σ 12))), none, none, none, none, none, none, none, none, none, none] [] g1 I1 J1 = some (.inl (some (.int 1)), g2, I2, J2) ∧ Gw 8 g g2 ∧ Lay g2 ∧ RC σ I2 J2 ∧ kG g I I2 J J2 := by
  obtain ⟨f1, f2, f3, f4, f5, f6, f7, f8⟩ := hF
  obtain ⟨k, I3, J3, q1, q2, q3, q4⟩ := l_areTrees hσ hL (by omega) hC f3 a0 a2
  have hL3 : Lay (tg k g) := hL.tg (by omega)
  obtain ⟨g4, I4, J4, r1, r2, r3, r4, r5⟩ := l_isSky hσ hL3 (tg_e f1 k (by omega)) (by rw [tg_n k (by omega)]; omega) (by rw [tg_n k (by omega)]; omega) q3 (by rw [tg_k]; exact f3) (by rw [q4.ii (by decide)]; exact a2) hsz
  exact ⟨tg k g, I3, J3, q2, q4, tg_k k, g4, I4, J4, r1, ((Gw.tg f1 (by omega) q1).tr r2), r3, r4, (kC.G q4).tr r5 (by rw [tg_n k (by omega)]; omega)⟩
theorem ac_trees (h : LI L xs σ g I J t) (ht : t ≤ 60) : Ac L xs t (hf_rn 182 478 [some (.ref 0), some (.ref 270), some (.ref 271), some (.ref 272), some (.int x), some (.int y), l6, l7] [] g I J) := by
  have hn6 := li_n h ht
  have h' := h
  obtain ⟨hσ, hL, hC, hF, ⟨x3, hA, hm⟩, hB⟩ := h'
  have hA' := hA
  obtain ⟨⟨a0, a1, a2, a3⟩, ⟨b0, b1, b2⟩, c0, c1⟩ := hA'
  have hF' := hF
  obtain ⟨f1, f2, f3, f4, f5, f6, f7, f8⟩ := hF'
  have hx4 := hm.2.2.2
  have e6 : nI x3 + 6 = nI (x3 + 6) := nI_add x3 6
  have e12 : (12 < nI (x3 + 6)) = (12 < x3 + 6) := by rw [show (12 : Int32) = nI 12 from rfl]; exact z_il (by decide) (by omega)
  have hC1 : RC σ (hf_u I 270 3 (nI (x3 + 6))) J := RC_u hσ hC (by decide)
  have hm2 : Lm σ (x3 + 6) (t + 1) := by
    obtain ⟨m1, m2, m3, m4⟩ := hm
    exact ⟨m1, m2, by omega, by omega⟩
  have u0 : ∀ j, j ≠ 3 → hf_u I 270 3 (nI (x3 + 6)) 270 j = I 270 j := fun j hj => ku_ix hj
  have u1 : ∀ a, a ≠ 270 → hf_u I 270 3 (nI (x3 + 6)) a = I a := fun a ha => ku_ne ha
  by_cases hc : 12 < x3 + 6
  · refine ⟨σ, g, hf_u I 270 3 (nI (x3 + 6)), J, ?_, h.go (x2 := x3 + 6) hσ hL hC1 (Gw.r f1) (u1 _ (by decide)) (u1 _ (by decide)) ⟨⟨by rw [u0 _ (by decide)]; exact a0, by rw [u0 _ (by decide)]; exact a1, by rw [u0 _ (by decide)]; exact a2, ku_same⟩, ⟨by rw [u1 _ (by decide)]; exact b0, by rw [u1 _ (by decide)]; exact b1, by rw [u1 _ (by decide)]; exact b2⟩, c0, c1⟩ hm2⟩
    simp only [s182_478, s182_479, s182_480, s182_481, s182_482, s182_484, s182_485, s182_486, s182_487, s182_488, s182_489, s182_491, s182_494, s182_495, s182_496, s182_499, s182_502, s182_503, s182_504, s182_505, s182_506, s182_507, s182_508, s182_509, s182_510, s182_511, s182_512, s182_513, s182_516, s182_519, s182_520, s182_523, s182_524, hf_bd_v, hf_bd_n, hf_iv_i, hf_iv_l, hf_iv_a, hf_iv_n, hf_iv_2, z_lgl, z_lgg, z_lge, z_lgle, z_lgz, Option.getD_some, Option.isSome_some, ↓reduceIte, not_true_eq_false, not_false_eq_true, Option.toList_some, Option.toList_none, List.cons_append, List.nil_append, Nat.reduceAdd, Nat.add_assoc, ku_ne, ku_same, ne_eq, Nat.reduceEqDiff, reduceCtorEq, Nat.add_eq_left, Nat.left_eq_add, Nat.reduceEqDiff, q10, q_ne, true_or, or_true, f3, z_43, z_c3, a3, e6, ku_same, e12, hc]
  · obtain ⟨g3, I3, J3, q1, q2, qk, g4, I4, J4, r1, r2, r3, r4, r5⟩ := tr_sky (I := hf_u I 270 3 (nI (x3 + 6))) hσ hL (by omega) hC1 ⟨f1, f2, f3, f4, f5, f6, (u1 _ (by decide)).trans f7, (u1 _ (by decide)).trans f8⟩ ((u0 _ (by decide)).trans a0) ((u0 _ (by decide)).trans a2) (li_64 hσ hm)
    have k4 : hf_k g3 271 = (2, 3) := by rw [qk]; exact f4
    have g0 : I3 271 0 = nI (sq σ 13) := by rw [q2.ii (by decide), u1 _ (by decide)]; exact b0
    have g1 : I3 271 1 = nI (sq σ 14) := by rw [q2.ii (by decide), u1 _ (by decide)]; exact b1
    have g2 : I3 271 2 = nI (sq σ 12) := by rw [q2.ii (by decide), u1 _ (by decide)]; exact b2
    have hG : ∀ a, 270 ≤ a → a < 273 ∨ 1000000 ≤ a → I4 a = hf_u I 270 3 (nI (x3 + 6)) a ∧ J4 a = J a := fun a ha hb => r5 a ha (by omega)
    refine ⟨σ, g4, I4, J4, ?_, h.go (x2 := x3 + 6) hσ r3 r4 (r2.le (by decide)) ((hG _ (by decide) (by decide)).1.trans (u1 _ (by decide))) ((hG _ (by decide) (by decide)).1.trans (u1 _ (by decide))) ⟨⟨?_, ?_, ?_, ?_⟩, ⟨?_, ?_, ?_⟩, ?_, ?_⟩ hm2⟩
    · simp only [s182_478, s182_479, s182_480, s182_481, s182_482, s182_484, s182_485, s182_486, s182_487, s182_488, s182_489, s182_491, s182_494, s182_495, s182_496, s182_499, s182_502, s182_503, s182_504, s182_505, s182_506, s182_507, s182_508, s182_509, s182_510, s182_511, s182_512, s182_513, s182_516, s182_519, s182_520, s182_523, s182_524, hf_bd_v, hf_bd_n, hf_iv_i, hf_iv_l, hf_iv_a, hf_iv_n, hf_iv_2, z_lgl, z_lgg, z_lge, z_lgle, z_lgz, Option.getD_some, Option.isSome_some, ↓reduceIte, not_true_eq_false, not_false_eq_true, Option.toList_some, Option.toList_none, List.cons_append, List.nil_append, Nat.reduceAdd, Nat.add_assoc, ku_ne, ku_same, ne_eq, Nat.reduceEqDiff, reduceCtorEq, Nat.add_eq_left, Nat.left_eq_add, Nat.reduceEqDiff, q10, q_ne, true_or, or_true, f3, z_43, z_c3, a3, e6, ku_same, e12, hc, q1, k4, z_30, z_31, z_32, z_c0, z_c1, z_c2, g0, g1, g2, r1]
    · rw [(hG 270 (by decide) (by decide)).1, u0 _ (by decide)]; exact a0
    · rw [(hG 270 (by decide) (by decide)).1, u0 _ (by decide)]; exact a1
    · rw [(hG 270 (by decide) (by decide)).1, u0 _ (by decide)]; exact a2
    · rw [(hG 270 (by decide) (by decide)).1, ku_same]
    · rw [(hG 271 (by decide) (by decide)).1, u1 _ (by decide)]; exact b0
    · rw [(hG 271 (by decide) (by decide)).1, u1 _ (by decide)]; exact b1
    · rw [(hG 271 (by decide) (by decide)).1, u1 _ (by decide)]; exact b2
    · rw [(hG 272 (by decide) (by decide)).2]; exact c0
    · rw [(hG 272 (by decide) (by decide)).2]; exact c1
end
