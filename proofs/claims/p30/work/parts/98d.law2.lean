/-! THE LAW: halos -/
section
variable {σ : Sg} {g g1 : hf_G} {I I1 I2 : hf_I} {J J1 J2 : hf_J} {s k a b c d n m l t q h : Nat} {i j y z : Int32} {v w hd : Int64} {R : Nat → Option Nat} {l3 l6 l8 l9 l10 l11 l12 l13 : Option Value}
theorem ha_in : ∀ (d n : Nat) (x : Int32), n + d = 64 → x = nI (ctB (btL v) n) → hf_rn 176 89 [some (.ref 0), some (.ref 270), some (.int i), l3, some (.long w), none, l6, some (.int 1), l8, some (.long v), none, some (.int x), some (.int (nI n)), l13] [] g I J = hf_rn 176 124 [some (.ref 0), some (.ref 270), some (.int i), l3, some (.long w), none, l6, some (.int 1), l8, some (.long v), none, some (.int (nI (ctB (btL v) 64))), some (.int (nI 64)), l13] [] g I J := by
  intro d
  induction d with
  | zero =>
    intro n x hn hx
    have e : n = 64 := by omega
    subst e
    simp only [s176_89, s176_91, s176_93, hf_bd_v, hf_bd_n, hf_iv_i, hf_iv_l, hf_iv_a, hf_iv_n, hf_iv_2, z_lgl, z_lgg, z_lge, z_lgle, z_lgz, Option.getD_some, Option.isSome_some, ↓reduceIte, not_true_eq_false, not_false_eq_true, Option.toList_some, Option.toList_none, List.cons_append, List.nil_append, Nat.reduceAdd, Nat.add_assoc, ku_ne, ku_same, ne_eq, Nat.reduceEqDiff, reduceCtorEq, Nat.add_eq_left, Nat.left_eq_add, Nat.reduceEqDiff, q10, q_ne, true_or, or_true, show nI 64 = 64 from rfl, Int32.le_refl, hx]
  | succ d ih =>
    intro n x hn hx
    have h64 : ((64 : Int32) ≤ nI n) = False := by rw [show (64 : Int32) = nI 64 from rfl, z_ii (by decide) (by omega)]; exact eq_false (by omega)
    by_cases hb : btL v n = true
    · have e : x + 1 = nI (ctB (btL v) (n + 1)) := by rw [hx, ctB_s, if_pos hb, nI_1]
      simp only [s176_89, s176_91, s176_93, s176_96, s176_98, s176_100, s176_102, s176_103, s176_104, s176_105, s176_106, s176_107, s176_110, s176_111, s176_114, s176_115, s176_116, s176_118, hf_bd_v, hf_bd_n, hf_iv_i, hf_iv_l, hf_iv_a, hf_iv_n, hf_iv_2, z_lgl, z_lgg, z_lge, z_lgle, z_lgz, Option.getD_some, Option.isSome_some, ↓reduceIte, not_true_eq_false, not_false_eq_true, Option.toList_some, Option.toList_none, List.cons_append, List.nil_append, Nat.reduceAdd, Nat.add_assoc, ku_ne, ku_same, ne_eq, Nat.reduceEqDiff, reduceCtorEq, Nat.add_eq_left, Nat.left_eq_add, Nat.reduceEqDiff, q10, q_ne, true_or, or_true, h64, ush_1 (v := v) (show n < 64 by omega), hb, z_1]
      rw [s176_121]
      exact ih _ _ (by omega) e
    · have e : x + 0 = nI (ctB (btL v) (n + 1)) := by rw [hx, ctB_s, if_neg hb, Int32.add_zero]
      simp only [s176_89, s176_91, s176_93, s176_96, s176_98, s176_100, s176_102, s176_103, s176_104, s176_105, s176_106, s176_107, s176_110, s176_111, s176_114, s176_115, s176_116, s176_118, hf_bd_v, hf_bd_n, hf_iv_i, hf_iv_l, hf_iv_a, hf_iv_n, hf_iv_2, z_lgl, z_lgg, z_lge, z_lgle, z_lgz, Option.getD_some, Option.isSome_some, ↓reduceIte, not_true_eq_false, not_false_eq_true, Option.toList_some, Option.toList_none, List.cons_append, List.nil_append, Nat.reduceAdd, Nat.add_assoc, ku_ne, ku_same, ne_eq, Nat.reduceEqDiff, reduceCtorEq, Nat.add_eq_left, Nat.left_eq_add, Nat.reduceEqDiff, q10, q_ne, true_or, or_true, h64, ush_1 (v := v) (show n < 64 by omega), hb, z_1]
      rw [s176_121]
      exact ih _ _ (by omega) e
/-- what is true of the halos of a slot -/
theorem ha_cnt (hc2 : sN σ ≤ 64) : ctB (btL (gbS R (sN σ) k)) 64 = szR R (sN σ) k := by
  have h1 := pop_S (R := R) (h := k) hc2
  rw [popI_n, z_ie (by have := ctB_le (p := btL (gbS R (sN σ) k)) 64; omega) (by have := szR_le (R := R) (c := sN σ) (h := k); omega)] at h1
  exact h1
theorem tl_v (hm : m = 1 ∨ m = 2) : ∃ a : Int, 0 ≤ a ∧ a < 4096 ∧ tlS σ s R k q m = lZ a := by
  unfold tlS valH
  rcases hm with rfl | rfl
  · rw [if_neg (by decide), if_pos rfl, plc_z]
    exact ⟨_, Int.emod_nonneg _ (by decide), Int.emod_lt_of_pos _ (by decide), rfl⟩
  · rw [if_neg (by decide), if_neg (by decide), if_pos rfl, plc_z]
    exact ⟨_, Int.emod_nonneg _ (by decide), Int.emod_lt_of_pos _ (by decide), rfl⟩
theorem ha_end (hk : hf_k g 270 = (2, 4)) (h0 : I 270 0 = nI s) (h8 : s ≤ 8) (hc : ∀ x, x < 64 → btL hd x = true → x < s * s) : hf_rn 176 287 [some (.ref 0), some (.ref 270), some (.int i), l3, some (.long hd), none, l6, some (.int 1), l8, l9, l10, l11, l12, l13] [] g I J = some (.inl (some (.int 1)), g, I, J) := by
  by_cases e : s = 8
  · subst e
    simp only [s176_287, s176_289, s176_292, s176_293, s176_294, s176_295, s176_297, s176_300, s176_302, s176_303, s176_304, s176_305, s176_306, s176_307, s176_308, s176_309, s176_310, s176_311, s176_312, s176_315, s176_316, s176_319, s176_320, hf_bd_v, hf_bd_n, hf_iv_i, hf_iv_l, hf_iv_a, hf_iv_n, hf_iv_2, z_lgl, z_lgg, z_lge, z_lgle, z_lgz, Option.getD_some, Option.isSome_some, ↓reduceIte, not_true_eq_false, not_false_eq_true, Option.toList_some, Option.toList_none, List.cons_append, List.nil_append, Nat.reduceAdd, Nat.add_assoc, ku_ne, ku_same, ne_eq, Nat.reduceEqDiff, reduceCtorEq, Nat.add_eq_left, Nat.left_eq_add, Nat.reduceEqDiff, q10, q_ne, true_or, or_true, hk, z_40, z_c0, h0, show nI 8 = 8 from rfl]
  · have e8 : (nI s = 8) = False := by rw [show (8 : Int32) = nI 8 from rfl, z_ie (by omega) (by decide)]; exact eq_false e
    have h49 : s * s ≤ 7 * 7 := Nat.mul_le_mul (by omega) (by omega)
    have hz := ush_0 (v := hd) (c := s * s) (by omega) hc
    simp only [s176_287, s176_289, s176_292, s176_293, s176_294, s176_295, s176_297, s176_300, s176_302, s176_303, s176_304, s176_305, s176_306, s176_307, s176_308, s176_309, s176_310, s176_311, s176_312, s176_315, s176_316, s176_319, s176_320, hf_bd_v, hf_bd_n, hf_iv_i, hf_iv_l, hf_iv_a, hf_iv_n, hf_iv_2, z_lgl, z_lgg, z_lge, z_lgle, z_lgz, Option.getD_some, Option.isSome_some, ↓reduceIte, not_true_eq_false, not_false_eq_true, Option.toList_some, Option.toList_none, List.cons_append, List.nil_append, Nat.reduceAdd, Nat.add_assoc, ku_ne, ku_same, ne_eq, Nat.reduceEqDiff, reduceCtorEq, Nat.add_eq_left, Nat.left_eq_add, Nat.reduceEqDiff, q10, q_ne, true_or, or_true, hk, z_40, z_c0, h0, e8, nI_mul, hz]
/-- one halo behind another -/
theorem ha_loop (hσ : SOK σ) (hL : Lay g) (hb : hf_n g + 70 < 1000000) (hk : hf_k g 270 = (2, 4)) (h0 : I 270 0 = nI (sq σ 0)) (hn : slN i s) (hs2 : sl σ s) (hR : hOf σ s R n l t) :
    ∀ (d k : Nat) (I1 : hf_I) (J1 : hf_J) (hd : Int64) (a : Nat) (l9 l10 l11 l12 l13 : Option Value), k + d = n → RC σ I1 J1 → kC I I1 J J1 → (∀ x, x < 64 → (btL hd x = true ↔ x < sN σ ∧ ∃ j, j < k ∧ R x = some j)) → a ≤ 65 → (∀ j, k ≤ j → j < n → szR R (sN σ) j ≤ a) →
      Lw σ 68 g I J (hf_rn 176 63 [some (.ref 0), some (.ref 270), some (.int i), some (.int (nI n)), some (.long hd), none, some (.int (nI a)), some (.int 1), some (.int (nI k)), l9, l10, l11, l12, l13] [] (tg (2 + k) g) I1 J1) := by
  have hN := sok_N hσ
  have n2 : n ≤ 64 := hR.2.2.2.2.1
  intro d
  induction d with
  | zero =>
    intro k I1 J1 hd a l9 l10 l11 l12 l13 hk1 hC hq hbits ha hsz
    have e : k = n := by omega
    subst e
    have hg0 : I1 270 0 = nI (sq σ 0) := by rw [hq.ii (by decide)]; exact h0
    have hc : sN σ = sq σ 0 * sq σ 0 := hσ.1.2
    have hend := ha_end (g := tg (2 + k) g) (I := I1) (J := J1) (i := i) (hd := hd) (l3 := some (.int (nI k))) (l6 := some (.int (nI a))) (l8 := some (.int (nI k))) (l9 := l9) (l10 := l10) (l11 := l11) (l12 := l12) (l13 := l13) (by rw [tg_k]; exact hk) hg0 (sok_s hσ).2 (fun x hx hb => by rw [← hc]; exact ((hbits x hx).mp hb).1)
    refine ⟨2 + k, I1, J1, by omega, ?_, hC, hq⟩
    simp only [s176_63, s176_65, s176_66, hf_bd_v, hf_bd_n, hf_iv_i, hf_iv_l, hf_iv_a, hf_iv_n, hf_iv_2, z_lgl, z_lgg, z_lge, z_lgle, z_lgz, Option.getD_some, Option.isSome_some, ↓reduceIte, not_true_eq_false, not_false_eq_true, Option.toList_some, Option.toList_none, List.cons_append, List.nil_append, Nat.reduceAdd, Nat.add_assoc, ku_ne, ku_same, ne_eq, Nat.reduceEqDiff, reduceCtorEq, Nat.add_eq_left, Nat.left_eq_add, Nat.reduceEqDiff, q10, q_ne, true_or, or_true, z_ii (show k < 2147483648 by omega) (show k < 2147483648 by omega), Nat.le_refl]
    exact hend
  | succ d ih =>
    intro k I1 J1 hd a l9 l10 l11 l12 l13 hk1 hC hq hbits ha hsz
    have hkn : k < n := by omega
    have hk2 : ¬ n ≤ k := by omega
    have hL2 : Lay (tg (2 + k) g) := hL.tg (by omega)
    have hx := lay_hx hL2
    obtain ⟨q, hlow⟩ := hLow_ex hR.1 hkn
    obtain ⟨I3, J3, a1, a2, a3⟩ := k_grains hσ hL2 hC hn hs2 hR hkn
    obtain ⟨I4, J4, b1, b2, b3⟩ := k_bound hσ hL2 a2 hn hs2 hR hkn
    obtain ⟨I5, J5, c1, c2, c3⟩ := k_ofHalo (m := 0) hσ hL2 b2 hn hs2 hR hkn hlow (by decide)
    obtain ⟨I6, J6, d1, d2, d3⟩ := k_ofHalo (m := 1) hσ hL2 c2 hn hs2 hR hkn hlow (by decide)
    obtain ⟨I7, J7, e1, e2, e3⟩ := k_ofHalo (m := 1) hσ hL2 d2 hn hs2 hR hkn hlow (by decide)
    obtain ⟨I8, J8, f1, f2, f3⟩ := k_ofHalo (m := 2) hσ hL2 e2 hn hs2 hR hkn hlow (by decide)
    obtain ⟨I9, J9, g1, g2, g3⟩ := k_ofHalo (m := 2) hσ hL2 f2 hn hs2 hR hkn hlow (by decide)
    obtain ⟨Ia, Ja, h1, h2, h3⟩ := k_ofHaloX1 (y := 6) hσ hL2 g2 hn hs2 hR hkn (by decide)
    have a4 := w_grains hx a1
    have b4 := w_bound hx b1
    have c4 := w_ofHalo hx c1
    have d4 := w_ofHalo hx d1
    have e4 := w_ofHalo hx e1
    have f4 := w_ofHalo hx f1
    have g4 := w_ofHalo hx g1
    have h4 := w_ofHaloX1 hx h1
    obtain ⟨z1, z2, z3, z4⟩ := tl_v (σ := σ) (s := s) (R := R) (k := k) (q := q) (m := 1) (Or.inl rfl)
    obtain ⟨y1, y2, y3, y4⟩ := tl_v (σ := σ) (s := s) (R := R) (k := k) (q := q) (m := 2) (Or.inr rfl)
    have e0 : tlS σ s R k q 0 = (nI (szR R (sN σ) k)).toInt64 := by
      unfold tlS valH
      rw [if_pos rfl, pop_S hN.2]
    rw [e0, z_n0] at c4
    rw [z4, z_n1] at d4 e4
    rw [y4, z_n2] at f4 g4
    rw [th_tg] at h4
    have p1 : (lZ z1 < 0) = False := by rw [show (0 : Int64) = lZ 0 from rfl, lZ_lt (lRs (by omega) (by omega)) (lRs (by omega) (by omega))]; exact eq_false (by omega)
    have p2 : (4096 ≤ lZ z1) = False := by rw [show (4096 : Int64) = lZ 4096 from rfl, lZ_le (lRs (by omega) (by omega)) (lRs (by omega) (by omega))]; exact eq_false (by omega)
    have p3 : (lZ y1 < 0) = False := by rw [show (0 : Int64) = lZ 0 from rfl, lZ_lt (lRs (by omega) (by omega)) (lRs (by omega) (by omega))]; exact eq_false (by omega)
    have p4 : (4096 ≤ lZ y1) = False := by rw [show (4096 : Int64) = lZ 4096 from rfl, lZ_le (lRs (by omega) (by omega)) (lRs (by omega) (by omega))]; exact eq_false (by omega)
    have s1 : gbS R (sN σ) k &&& hd = 0 := bt_ext fun x hx => by
      rw [bt_and hx, bt_0 hx, gbS_bt hN.2 hx]
      cases e : btL hd x
      · rw [Bool.and_false]
      · obtain ⟨u1, j, u2, u3⟩ := (hbits x hx).mp e
        rw [Bool.and_true, decide_eq_false]
        rintro ⟨-, u4⟩
        rw [u3] at u4
        cases u4
        omega
    have hsz0 := szR_pos hlow
    have hszl : szR R (sN σ) k ≤ sN σ := szR_le
    have s2 : (nI (szR R (sN σ) k) ≤ 0) = False := by rw [show (0 : Int32) = nI 0 from rfl, z_ii (by omega) (by decide)]; exact eq_false (by omega)
    have s3 : (nI a < nI (szR R (sN σ) k)) = False := by rw [z_il (by omega) (by omega)]; exact eq_false (by have := hsz k (Nat.le_refl _) hkn; omega)
    have s5 : (orL (sN σ) (bnd σ s R k 64) = 0) = False := by
      refine eq_false fun e => ?_
      obtain ⟨x, hx, hb⟩ := bnd_some (σ := σ) (s := s) (R := R) (h := k) hN.2 ⟨q, hlow.1, hlow.2.1⟩ 64
      have h64 : x < 64 := by omega
      have := bt_orL (p := bnd σ s R k 64) hN.2 h64
      rw [e, bt_0 h64, decide_eq_true hx, hb] at this
      cases this
    have s6 : orL (sN σ) (bnd σ s R k 64) &&& (gbS R (sN σ) k ^^^ -1) = 0 := bt_ext fun x hx => by
      rw [bt_and hx, bt_not hx, bt_0 hx, bt_orL hN.2 hx, gbS_bt hN.2 hx]
      cases e : bnd σ s R k 64 x
      · rw [Bool.and_false, Bool.false_and]
      · have := bnd_sub (σ := σ) (s := s) (R := R) (h := k) 64 e
        by_cases u : x < sN σ
        · rw [decide_eq_true u, decide_eq_true ⟨u, this⟩]; rfl
        · rw [decide_eq_false u]; rfl
    have hin := ha_in (v := gbS R (sN σ) k) (w := hd) (i := i) (g := tg (2 + k) g) (I := I3) (J := J3) (l3 := some (.int (nI n))) (l6 := some (.int (nI a))) (l8 := some (.int (nI k))) (l13 := l13) 64 0 0 rfl rfl
    rw [ha_cnt hN.2, z_n0] at hin
    simp only [s176_63, s176_65, s176_66, s176_69, s176_71, s176_74, s176_75, s176_76, s176_78, s176_81, s176_83, s176_84, s176_86, s176_87, hf_bd_v, hf_bd_n, hf_iv_i, hf_iv_l, hf_iv_a, hf_iv_n, hf_iv_2, z_lgl, z_lgg, z_lge, z_lgle, z_lgz, Option.getD_some, Option.isSome_some, ↓reduceIte, not_true_eq_false, not_false_eq_true, Option.toList_some, Option.toList_none, List.cons_append, List.nil_append, Nat.reduceAdd, Nat.add_assoc, ku_ne, ku_same, ne_eq, Nat.reduceEqDiff, reduceCtorEq, Nat.add_eq_left, Nat.left_eq_add, Nat.reduceEqDiff, q10, q_ne, true_or, or_true, z_ii (show n < 2147483648 by omega) (show k < 2147483648 by omega), hk2, a4]
    rw [hin]
    simp only [s176_124, s176_125, s176_126, s176_128, s176_131, s176_133, s176_135, s176_137, s176_138, s176_139, s176_140, s176_143, s176_145, s176_148, s176_150, s176_152, s176_155, s176_156, s176_157, s176_159, s176_160, s176_163, s176_165, s176_166, s176_167, s176_170, s176_172, s176_173, s176_174, s176_177, s176_179, s176_181, s176_184, s176_185, s176_186, s176_187, s176_188, s176_191, s176_192, s176_193, s176_195, s176_196, s176_199, s176_200, s176_201, s176_204, s176_205, s176_206, s176_208, s176_209, s176_212, s176_215, s176_216, s176_219, s176_220, s176_221, s176_223, s176_224, s176_227, s176_228, s176_229, s176_232, s176_233, s176_234, s176_236, s176_237, s176_240, s176_243, s176_244, s176_247, s176_248, s176_249, s176_251, s176_253, s176_256, s176_259, s176_260, s176_263, s176_264, s176_267, s176_268, s176_270, s176_272, s176_274, s176_275, s176_277, s176_279, s176_281, hf_bd_v, hf_bd_n, hf_iv_i, hf_iv_l, hf_iv_a, hf_iv_n, hf_iv_2, z_lgl, z_lgg, z_lge, z_lgle, z_lgz, Option.getD_some, Option.isSome_some, ↓reduceIte, not_true_eq_false, not_false_eq_true, Option.toList_some, Option.toList_none, List.cons_append, List.nil_append, Nat.reduceAdd, Nat.add_assoc, ku_ne, ku_same, ne_eq, Nat.reduceEqDiff, reduceCtorEq, Nat.add_eq_left, Nat.left_eq_add, Nat.reduceEqDiff, q10, q_ne, true_or, or_true, b4, s1, s2, s3, c4, s5, s6, d4, p1, e4, p2, f4, p3, g4, p4, h4, z_1]
    rw [s176_284]
    refine ih (k + 1) Ia Ja _ _ _ _ _ _ _ (by omega) h2 ?_ ?_ (by omega) ?_
    · exact kC.t hq (kC.t a3 (kC.t b3 (kC.t c3 (kC.t d3 (kC.t e3 (kC.t f3 (kC.t g3 h3)))))))
    · intro x hx
      rw [bt_or hx, Bool.or_eq_true, gbS_bt hN.2 hx, decide_eq_true_eq, hbits x hx]
      constructor
      · rintro (⟨u1, j, u2, u3⟩ | ⟨u1, u2⟩)
        · exact ⟨u1, j, by omega, u3⟩
        · exact ⟨u1, k, by omega, u2⟩
      · rintro ⟨u1, j, u2, u3⟩
        by_cases e : j = k
        · subst e; exact Or.inr ⟨u1, u3⟩
        · exact Or.inl ⟨u1, j, by omega, u3⟩
    · intro j h5 h6
      exact (En_sz hR.1).2 k j (by omega) h6
theorem l_areHalos (hσ : SOK σ) (hL : Lay g) (hb : hf_n g + 70 < 1000000) (hC : RC σ I J) (hk : hf_k g 270 = (2, 4)) (h0 : I 270 0 = nI (sq σ 0)) (hn : slN i s) (hs2 : sl σ s) : Lw σ 68 g I J (hf_rn 176 0 [some (.ref 0), some (.ref 270), some (.int i), none, none, none, none, none, none, none, none, none, none, none] [] g I J) := by
  obtain ⟨R, n, l, t, hR⟩ := hOf_ex hσ hs2
  have hN := sok_N hσ
  have n2 : n ≤ 64 := hR.2.2.2.2.1
  have hx := lay_hx hL
  obtain ⟨I3, J3, a1, a2, a3⟩ := k_halos hσ hL hC hn hs2 hR
  obtain ⟨I4, J4, b1, b2, b3⟩ := k_anew hσ hL a2 hn hs2 hR
  obtain ⟨I5, J5, c1, c2, c3⟩ := k_grainsX (j := nI n) hσ hL b2 hn hs2 hR (fun q => by rw [z_il (by omega) (by omega)] at q; omega)
  have hL1 : Lay (hf_th g) := hL.tg (k := 1) (by omega)
  obtain ⟨I6, J6, d1, d2, d3⟩ := k_ofHaloX3 (j := -1) (y := 0) hσ hL1 c2 hn hs2 hR (fun q => absurd q.1 (by decide))
  have a4 := w_halos hx a1
  have b4 := w_halosAnew hx b1
  have c4 := w_grainsX3 hx c1
  have d4 := w_ofHaloX3 (lay_hx hL1) d1
  simp only [s176_0, s176_1, s176_2, s176_5, s176_6, s176_7, s176_9, s176_11, s176_13, s176_14, s176_17, s176_18, s176_19, s176_22, s176_23, s176_26, s176_27, s176_28, s176_29, s176_32, s176_35, s176_36, s176_39, s176_40, s176_41, s176_42, s176_43, s176_46, s176_49, s176_50, s176_53, s176_54, s176_57, s176_58, s176_60, s176_61, hf_bd_v, hf_bd_n, hf_iv_i, hf_iv_l, hf_iv_a, hf_iv_n, hf_iv_2, z_lgl, z_lgg, z_lge, z_lgle, z_lgz, Option.getD_some, Option.isSome_some, ↓reduceIte, not_true_eq_false, not_false_eq_true, Option.toList_some, Option.toList_none, List.cons_append, List.nil_append, Nat.reduceAdd, Nat.add_assoc, ku_ne, ku_same, ne_eq, Nat.reduceEqDiff, reduceCtorEq, Nat.add_eq_left, Nat.left_eq_add, Nat.reduceEqDiff, q10, q_ne, true_or, or_true, a4, z_i0 (show n < 2147483648 by omega), b4, c4, d4]
  exact ha_loop hσ hL hb hk h0 hn hs2 hR n 0 I6 J6 0 65 none none none none none (by omega) d2 (kC.t a3 (kC.t b3 (kC.t c3 d3))) (fun x hx => by
    rw [bt_0 hx]
    refine ⟨fun u => (by cases u), fun q => ?_⟩
    obtain ⟨-, j, u, -⟩ := q
    omega) (by decide) (fun j _ hj => by have := szR_le (R := R) (c := sN σ) (h := j); omega)
end
