/-! THE LAW: its loop, its end, its start -/
def f00 : Nat → Nat := up (up (up (up (fun _ => 0) 4 100) 5 200) 6 2) 12 1000
def σ00 : Sg := sgR ((fun _ => 0), (fun _ _ => 0), (fun _ _ => 0), (fun _ _ => 0), (fun _ _ => 0), (fun _ _ => none), (fun _ => 0), (fun _ => 0), fun _ => 0) (unF f00 4) (unR 4)
section
variable {L t x3 x2 k m s a b c d w n : Nat} {xs : Nat → Int32} {σ σ2 : Sg} {g g2 : hf_G} {I I2 : hf_I} {J J2 : hf_J} {i j : Int32} {l5 l6 l7 : Option Value}
theorem rng00 : Rng (unF f00 4) := ⟨by decide, rfl⟩
theorem sok00 : SOK σ00 := sok_b rng00 rfl (fun k hk => by
  obtain ⟨-, -, -, -, l5, l6⟩ := lat_ok 4 (by omega) (by omega) k hk
  exact ⟨l5, l6⟩)
theorem rc00 : RC σ00 (hxI (hf_i0 xs)) (hxJ hf_j0) := by
  refine RC_b rfl ⟨rfl, rfl, rfl, rfl, rfl, rfl, rfl, rfl, rfl, rfl, rfl, rfl, rfl, rfl, rfl, rfl, rfl⟩ (RC_sg ?_ rfl)
  intro k hk
  obtain ⟨h1, h2, h3, h4⟩ := lo_c (J := hf_j0) (s := 4) (by omega) (by omega) k hk
  unfold hxJ
  have e : ∀ a, a ≠ 238 → a ≠ 0 → a ≠ 13 → a ≠ 257 → hf_u (hf_u (hf_u (hf_u (hf_u (hf_u (hf_u (hf_u (hf_u (hf_u (loJ hf_j0 4) 238 0 0) 238 1 100) 0 7 200) 13 4 0) 13 5 0) 13 6 0) 257 7 0) 257 8 0) 257 9 1000) 257 11 0 a = loJ hf_j0 4 a := fun a h1 h2 h3 h4 => by
    rw [ku_ne h4, ku_ne h4, ku_ne h4, ku_ne h4, ku_ne h3, ku_ne h3, ku_ne h3, ku_ne h2, ku_ne h1, ku_ne h1]
  rw [e 4 (by decide) (by decide) (by decide) (by decide), e 6 (by decide) (by decide) (by decide) (by decide), e 8 (by decide) (by decide) (by decide) (by decide), e 10 (by decide) (by decide) (by decide) (by decide)]
  exact ⟨h1, h2, h3, h4⟩
theorem hxI_hi (h : 258 ≤ a) : hxI I a = I a := by
  unfold hxI
  rw [ku_ne (by omega), ku_ne (by omega), loI_n (by omega)]
theorem hxJ_hi (h : 258 ≤ a) : hxJ J a = J a := by
  unfold hxJ
  rw [ku_ne (by omega), ku_ne (by omega), ku_ne (by omega), ku_ne (by omega), ku_ne (by omega), ku_ne (by omega), ku_ne (by omega), ku_ne (by omega), ku_ne (by omega), ku_ne (by omega), loJ_n (by omega)]
theorem l_at (hk : hf_k g 1000001 = (6, L)) (hL : L ≤ 260) (hn : n < 1000) : ∃ v, hf_rn 152 0 [some (.ref 1000001), some (.int (nI n))] [] g I J = some (.inl (some (.int v)), g, I, J) := by
  by_cases h : n < L
  · have e : (nI L ≤ nI n) = False := by rw [z_ii (by omega) (by omega)]; exact eq_false (by omega)
    have hin : hf_in (nI n) L = true := by rw [z_in (by omega)]; exact decide_eq_true h
    refine ⟨I 1000001 n, ?_⟩
    simp only [s152_0, s152_1, s152_2, s152_3, s152_6, s152_7, s152_8, s152_9, s152_12, s152_14, s152_15, s152_16, s152_17, s152_18, s152_20, s152_21, hf_bd_v, hf_bd_n, hf_iv_i, hf_iv_l, hf_iv_a, hf_iv_n, hf_iv_2, z_lgl, z_lgg, z_lge, z_lgle, z_lgz, Option.getD_some, Option.isSome_some, ↓reduceIte, not_true_eq_false, not_false_eq_true, Option.toList_some, Option.toList_none, List.cons_append, List.nil_append, Nat.reduceAdd, Nat.add_assoc, ku_ne, ku_same, ne_eq, Nat.reduceEqDiff, reduceCtorEq, Nat.add_eq_left, Nat.left_eq_add, Nat.reduceEqDiff, q10, q_ne, true_or, or_true, hk, Nat.reduceLeDiff, and_self, show L < 2147483648 by omega, e, hin, z_cl (show n < 2147483648 by omega)]
  · have e : (nI L ≤ nI n) = True := by rw [z_ii (by omega) (by omega)]; exact eq_true (by omega)
    refine ⟨1877071813 * (nI n + 1) + 968082913, ?_⟩
    simp only [s152_0, s152_1, s152_2, s152_3, s152_6, s152_7, s152_8, s152_9, s152_12, s152_14, s152_15, s152_16, s152_17, s152_18, s152_20, s152_21, hf_bd_v, hf_bd_n, hf_iv_i, hf_iv_l, hf_iv_a, hf_iv_n, hf_iv_2, z_lgl, z_lgg, z_lge, z_lgle, z_lgz, Option.getD_some, Option.isSome_some, ↓reduceIte, not_true_eq_false, not_false_eq_true, Option.toList_some, Option.toList_none, List.cons_append, List.nil_append, Nat.reduceAdd, Nat.add_assoc, ku_ne, ku_same, ne_eq, Nat.reduceEqDiff, reduceCtorEq, Nat.add_eq_left, Nat.left_eq_add, Nat.reduceEqDiff, q10, q_ne, true_or, or_true, hk, Nat.reduceLeDiff, and_self, show L < 2147483648 by omega, e]
/-- behind the loop -/
theorem law_end (h : LI L xs σ g I J t) (hL : L ≤ 260) (ht : t ≤ 60) : ∃ g1 I1 J1, hf_rn 183 123 [some (.ref 1000001), some (.ref 0), some (.ref 270), some (.ref 271), some (.ref 272), some (.int 1), l6] [] g I J = some (.inl (some (.int 1)), g1, I1, J1) ∧ hf_c g1 ≤ 600104 ∧ hf_s g1 ≤ 7301314 := by
  have hn6 := li_n h ht
  have h' := h
  obtain ⟨hσ, hLy, hC, hF, ⟨x3, hA, hm⟩, hB⟩ := h'
  obtain ⟨⟨a0, a1, a2, a3⟩, ⟨b0, b1, b2⟩, c0, c1⟩ := hA
  have hF' := hF
  obtain ⟨f1, f2, f3, f4, f5, f6, f7, f8⟩ := hF'
  obtain ⟨k, I3, J3, q1, q2, q3, q4⟩ := l_areHalos (i := -1) (s := 12) hσ hLy (by omega) hC f3 a0 (Or.inl ⟨rfl, rfl⟩) (Or.inl rfl)
  have hL3 : Lay (tg k g) := hLy.tg (by omega)
  have G3 : Gw 68 g (tg k g) := Gw.tg f1 (by omega) q1
  obtain ⟨g4, I4, J4, r1, r2, rk, g5, I5, J5, s1, s2, s3, s4, s5⟩ := tr_sky hσ hL3 (by rw [tg_n k (by omega)]; omega) q3 (hF.go G3 (q4.ii (by decide)) (q4.ii (by decide))) (by rw [q4.ii (by decide)]; exact a0) (by rw [q4.ii (by decide)]; exact a2) (li_64 hσ hm)
  have G5 : Gw 76 g g5 := G3.tr s2
  have F5 : FR L xs g5 I5 := hF.go G5 (by rw [(s5 1000001 (by decide) (Or.inr (by decide))).1, q4.ii (by decide)]) (by rw [(s5 1000002 (by decide) (Or.inr (by decide))).1, q4.ii (by decide)])
  obtain ⟨v, hv⟩ := l_at (g := g5) (I := I5) (J := J5) (n := 2) F5.2.2.2.2.2.1 hL (by decide)
  rw [z_n2] at hv
  have hn3 : 273 ≤ hf_n (tg k g) := by rw [tg_n k (by omega)]; omega
  obtain ⟨k6, I6, J6, u1, u2, u3, u4⟩ := l_areCounts (y := v) hσ s3 s4 F5.2.2.1 (by rw [(s5 270 (by decide) (Or.inl (by omega))).1, q4.ii (by decide)]; exact a0) hσ.1.2
  have k4 : hf_k g4 271 = (2, 3) := by rw [rk, tg_k]; exact f4
  have o0 : I4 271 0 = nI (sq σ 13) := by rw [r2.ii (by decide), q4.ii (by decide)]; exact b0
  have o1 : I4 271 1 = nI (sq σ 14) := by rw [r2.ii (by decide), q4.ii (by decide)]; exact b1
  have o2 : I4 271 2 = nI (sq σ 12) := by rw [r2.ii (by decide), q4.ii (by decide)]; exact b2
  have hb := hB
  unfold Bd at hb
  obtain ⟨w1, w2, w3⟩ := hb
  obtain ⟨y1, y2, y3, -⟩ := G5
  have w4 : 6400 * t ≤ 384000 := by omega
  refine ⟨tg k6 g5, I6, J6, ?_, by rw [tg_c]; omega, ?_⟩
  · simp only [s183_123, s183_125, s183_128, s183_129, s183_130, s183_131, s183_134, s183_137, s183_138, s183_139, s183_142, s183_145, s183_146, s183_147, s183_148, s183_149, s183_150, s183_151, s183_152, s183_153, s183_154, s183_155, s183_156, s183_159, s183_162, s183_163, s183_164, s183_165, s183_166, s183_169, s183_172, s183_175, s183_176, s183_179, s183_180, hf_bd_v, hf_bd_n, hf_iv_i, hf_iv_l, hf_iv_a, hf_iv_n, hf_iv_2, z_lgl, z_lgg, z_lge, z_lgle, z_lgz, Option.getD_some, Option.isSome_some, ↓reduceIte, not_true_eq_false, not_false_eq_true, Option.toList_some, Option.toList_none, List.cons_append, List.nil_append, Nat.reduceAdd, Nat.add_assoc, ku_ne, ku_same, ne_eq, Nat.reduceEqDiff, reduceCtorEq, Nat.add_eq_left, Nat.left_eq_add, Nat.reduceEqDiff, q10, q_ne, true_or, or_true, q2, r1, k4, z_30, z_31, z_32, z_c0, z_c1, z_c2, o0, o1, o2, s1, hv, u2]
  · rw [tg_ss]
    generalize 6400 * t = z at w3 w4
    omega
theorem law_loop (hL : L ≤ 260) : ∀ (d k : Nat) (σ : Sg) (g : hf_G) (I : hf_I) (J : hf_J), k + d = 50 → LI L xs σ g I J (k + 1) → ∃ g1 I1 J1, hf_rn 183 77 [some (.ref 1000001), some (.ref 0), some (.ref 270), some (.ref 271), some (.ref 272), some (.int 1), some (.int (nI k))] [] g I J = some (.inl (some (.int 1)), g1, I1, J1) ∧ hf_c g1 ≤ 600104 ∧ hf_s g1 ≤ 7301314 := by
  intro d
  induction d with
  | zero =>
    intro k σ g I J hk h
    have e : k = 50 := by omega
    subst e
    obtain ⟨g1, I1, J1, h1, h2, h3⟩ := law_end (l6 := some (.int (nI 50))) h hL (by decide)
    refine ⟨g1, I1, J1, ?_, h2, h3⟩
    rw [← h1]
    simp only [s183_77, s183_79, s183_81, hf_bd_v, hf_bd_n, hf_iv_i, hf_iv_l, hf_iv_a, hf_iv_n, hf_iv_2, z_lgl, z_lgg, z_lge, z_lgle, z_lgz, Option.getD_some, Option.isSome_some, ↓reduceIte, not_true_eq_false, not_false_eq_true, Option.toList_some, Option.toList_none, List.cons_append, List.nil_append, Nat.reduceAdd, Nat.add_assoc, ku_ne, ku_same, ne_eq, Nat.reduceEqDiff, reduceCtorEq, Nat.add_eq_left, Nat.left_eq_add, Nat.reduceEqDiff, q10, q_ne, true_or, or_true, show ((50 : Int32) ≤ nI 50) = True from eq_true (by decide)]
  | succ d ih =>
    intro k σ g I J hk h
    have e50 : ((50 : Int32) ≤ nI k) = False := by rw [show (50 : Int32) = nI 50 from rfl, z_ii (by decide) (by omega)]; exact eq_false (by omega)
    have e2 : (2 : Int32) * nI k = nI (2 * k) := by rw [show (2 : Int32) = nI 2 from rfl, nI_mul]
    obtain ⟨v, hv⟩ := l_at (g := g) (I := I) (J := J) (n := 2 * k) h.2.2.2.1.2.2.2.2.2.1 hL (by omega)
    obtain ⟨w, hw⟩ := l_at (g := g) (I := I) (J := J) (n := 2 * k + 1) h.2.2.2.1.2.2.2.2.2.1 hL (by omega)
    obtain ⟨σ2, g2, I2, J2, r1, r2⟩ := l_acts h (by omega) v w
    obtain ⟨g1, I1, J1, h1, h2, h3⟩ := ih (k + 1) σ2 g2 I2 J2 (by omega) r2
    refine ⟨g1, I1, J1, ?_, h2, h3⟩
    simp only [s183_77, s183_79, s183_81, s183_84, s183_86, s183_89, s183_90, s183_91, s183_92, s183_94, s183_95, s183_96, s183_98, s183_99, s183_102, s183_103, s183_104, s183_106, s183_107, s183_108, s183_109, s183_112, s183_115, s183_117, hf_bd_v, hf_bd_n, hf_iv_i, hf_iv_l, hf_iv_a, hf_iv_n, hf_iv_2, z_lgl, z_lgg, z_lge, z_lgle, z_lgz, Option.getD_some, Option.isSome_some, ↓reduceIte, not_true_eq_false, not_false_eq_true, Option.toList_some, Option.toList_none, List.cons_append, List.nil_append, Nat.reduceAdd, Nat.add_assoc, ku_ne, ku_same, ne_eq, Nat.reduceEqDiff, reduceCtorEq, Nat.add_eq_left, Nat.left_eq_add, Nat.reduceEqDiff, q10, q_ne, true_or, or_true, e50, e2, z_1, hv, hw, r1]
    rw [s183_120]
    exact h1
theorem hf_pure (L : Nat) (hL : L ≤ 260) (xs : Nat → Int32) : ∃ (n : Nat) (g1 : hf_G) (I1 : hf_I) (J1 : hf_J), hf_ex n 183 0 (hf_ent 7 [.ref 1000001]) [] (hf_g0 L) (hf_i0 xs) hf_j0 = some (.inl (some (.int 1)), g1, I1, J1) ∧ hf_c g1 ≤ 600104 ∧ hf_s g1 ≤ 7301314 := by
  have Z0 : Zr (hf_i0 xs) hf_j0 0 := fun a _ ha => ⟨by funext j; show (if a = 1000001 then xs j else if a = 1000002 then hf_wave j else 0) = 0; rw [if_neg (by omega), if_neg (by omega)], rfl⟩
  obtain ⟨g2, r2, x2, n2, e2, ⟨hHx, hAl, hPu, hJo, hUn, hSk⟩, c2, s2⟩ := k_Hx (g := hf_g0 L) (I := hf_i0 xs) (J := hf_j0) rfl rfl Z0
  have Z2 : Zr (hxI (hf_i0 xs)) (hxJ hf_j0) 270 := fun a h1 ha => ⟨(hxI_hi (by omega)).trans (Z0 a (by omega) ha).1, (hxJ_hi (by omega)).trans (Z0 a (by omega) ha).2⟩
  have k01 : hf_k g2 1000001 = (6, L) := (x2.2 1000001 (Or.inr (by omega))).1
  have k02 : hf_k g2 1000002 = (6, 16) := (x2.2 1000002 (Or.inr (by omega))).1
  have L2 : Lay g2 := ⟨⟨hHx, hAl, hPu, hJo, hUn, hSk⟩, by omega, k02⟩
  obtain ⟨p1, hp1⟩ : ∃ p, p = hf_mk g2 (2, 4) 4 := ⟨_, rfl⟩
  have n3 : hf_n p1 = 271 := by rw [hp1]; exact congrArg (· + 1) n2
  have e3 : hf_e p1 = true := by rw [hp1]; exact e2
  have L3 : Lay p1 := by rw [hp1]; exact L2.mk (by omega) (by omega)
  have x3 : Ex g2 p1 := by rw [hp1]; exact ex_mk (by omega)
  have k3 : hf_k p1 270 = (2, 4) := by rw [hp1, ← n2]; exact mk_k
  obtain ⟨p2, hp2⟩ : ∃ p, p = hf_mk p1 (2, 3) 3 := ⟨_, rfl⟩
  have n4 : hf_n p2 = 272 := by rw [hp2]; exact congrArg (· + 1) n3
  have e4 : hf_e p2 = true := by rw [hp2]; exact e3
  have L4 : Lay p2 := by rw [hp2]; exact L3.mk (by omega) (by omega)
  have x4 : Ex p1 p2 := by rw [hp2]; exact ex_mk (by omega)
  have k4 : hf_k p2 271 = (2, 3) := by rw [hp2, ← n3]; exact mk_k
  obtain ⟨p3, hp3⟩ : ∃ p, p = hf_mk p2 (3, 2) 2 := ⟨_, rfl⟩
  have n5 : hf_n p3 = 273 := by rw [hp3]; exact congrArg (· + 1) n4
  have e5 : hf_e p3 = true := by rw [hp3]; exact e4
  have L5 : Lay p3 := by rw [hp3]; exact L4.mk (by omega) (by omega)
  have x5 : Ex p2 p3 := by rw [hp3]; exact ex_mk (by omega)
  have k5 : hf_k p3 272 = (3, 2) := by rw [hp3, ← n4]; exact mk_k
  have c5 : hf_c p3 = 273 := by
    rw [hp3, hp2, hp1]
    show hf_c g2 + 1 + 1 + 1 = 273
    have : hf_c (hf_g0 L) = 0 := rfl
    omega
  have s5 : hf_s p3 = 13991 := by
    rw [hp3, hp2, hp1]
    show hf_s g2 + 4 + 3 + 2 = 13991
    have : hf_s (hf_g0 L) = 0 := rfl
    omega
  have k5a : hf_k p3 270 = (2, 4) := ((x4.t x5).2 270 (Or.inl (by omega))).1.trans k3
  have k5b : hf_k p3 271 = (2, 3) := (x5.2 271 (Or.inl (by omega))).1.trans k4
  have k5c : hf_k p3 1000001 = (6, L) := ((x3.t (x4.t x5)).2 1000001 (Or.inr (by decide))).1.trans k01
  obtain ⟨I3, hI3⟩ : ∃ K, K = hf_u (hf_u (hf_u (hxI (hf_i0 xs)) 270 0 4) 270 1 1) 271 2 1000 := ⟨_, rfl⟩
  have hC3 : RC σ00 I3 (hxJ hf_j0) := by
    rw [hI3]
    exact RC_u sok00 (RC_u sok00 (RC_u sok00 rc00 (by decide)) (by decide)) (by decide)
  have z0 : ∀ a, 270 ≤ a → a < 1000000 → hxI (hf_i0 xs) a = (fun _ => 0) ∧ hxJ hf_j0 a = (fun _ => 0) := fun a h1 h2 => Z2 a h1 h2
  have hLI : LI L xs σ00 p3 I3 (hxJ hf_j0) 0 := by
    refine ⟨sok00, L5, hC3, ⟨e5, by omega, k5a, k5b, k5, k5c, ?_, ?_⟩, ⟨0, ⟨⟨?_, ?_, ?_, ?_⟩, ⟨?_, ?_, ?_⟩, ?_, ?_⟩, ⟨by decide, by decide, by decide, by decide⟩⟩, ⟨by omega, by omega, by rw [s5]; decide⟩⟩
    · rw [hI3, ku_ne (by decide), ku_ne (by decide), ku_ne (by decide), hxI_hi (by decide)]; rfl
    · rw [hI3, ku_ne (by decide), ku_ne (by decide), ku_ne (by decide), hxI_hi (by decide)]; rfl
    · rw [hI3, ku_ne (by decide), ku_ix (by decide), ku_same]; rfl
    · rw [hI3, ku_ne (by decide), ku_same]; rfl
    · rw [hI3, ku_ne (by decide), ku_ix (by decide), ku_ix (by decide), (z0 270 (by decide) (by decide)).1]; rfl
    · rw [hI3, ku_ne (by decide), ku_ix (by decide), ku_ix (by decide), (z0 270 (by decide) (by decide)).1]; rfl
    · rw [hI3, ku_ix (by decide), ku_ne (by decide), ku_ne (by decide), (z0 271 (by decide) (by decide)).1]; rfl
    · rw [hI3, ku_ix (by decide), ku_ne (by decide), ku_ne (by decide), (z0 271 (by decide) (by decide)).1]; rfl
    · rw [hI3, ku_same]; rfl
    · rw [(z0 272 (by decide) (by decide)).2]; exact (smA_z _).symm
    · rw [(z0 272 (by decide) (by decide)).2]; exact (smA_z _).symm
  obtain ⟨v0, hv0⟩ := l_at (g := p3) (I := I3) (J := hxJ hf_j0) (n := 0) k5c hL (by decide)
  obtain ⟨σ1, g6, I6, J6, q1, q2⟩ := l_waves hLI (by decide) 2 v0
  obtain ⟨v1, hv1⟩ := l_at (g := g6) (I := I6) (J := J6) (n := 1) q2.2.2.2.1.2.2.2.2.2.1 hL (by decide)
  obtain ⟨σ2, g7, I7, J7, q3, q4⟩ := l_waves q2 (by decide) 1 v1
  obtain ⟨g1, I1, J1, hr, hc, hs⟩ := law_loop hL 49 1 σ2 g7 I7 J7 (by decide) q4
  rw [z_n0] at hv0
  rw [z_n1] at hv1 hr
  have hn0 : hf_n (hf_g0 L) = 0 := rfl
  have he0 : hf_e (hf_g0 L) = true := rfl
  have run : hf_rn 183 0 [some (.ref 1000001), none, none, none, none, none, none] [] (hf_g0 L) (hf_i0 xs) hf_j0 = some (.inl (some (.int 1)), g1, I1, J1) := by
    simp only [s183_0, s183_3, s183_4, s183_7, s183_8, s183_9, s183_11, s183_12, s183_13, s183_15, s183_16, s183_17, s183_19, s183_21, s183_22, s183_23, s183_24, s183_25, s183_26, s183_27, s183_28, s183_29, s183_30, s183_31, s183_34, s183_35, s183_36, s183_37, s183_39, s183_40, s183_41, s183_42, s183_45, s183_48, s183_51, s183_52, s183_53, s183_55, s183_56, s183_57, s183_58, s183_61, s183_64, s183_67, s183_68, s183_71, s183_72, s183_74, s183_75, hf_bd_v, hf_bd_n, hf_iv_i, hf_iv_l, hf_iv_a, hf_iv_n, hf_iv_2, z_lgl, z_lgg, z_lge, z_lgle, z_lgz, Option.getD_some, Option.isSome_some, ↓reduceIte, not_true_eq_false, not_false_eq_true, Option.toList_some, Option.toList_none, List.cons_append, List.nil_append, Nat.reduceAdd, Nat.add_assoc, ku_ne, ku_same, ne_eq, Nat.reduceEqDiff, reduceCtorEq, Nat.add_eq_left, Nat.left_eq_add, Nat.reduceEqDiff, q10, q_ne, true_or, or_true, hn0, he0, show (0 : Nat) < 1000000 by omega, Z0.wI (show 0 ≤ 0 by omega) (by omega), Z0.wJ (show 0 ≤ 0 by omega) (by omega), r2, n2, e2, show (270 : Nat) < 1000000 by omega, Z2.wI (show 270 ≤ 270 by omega) (by omega), Z2.wJ (show 270 ≤ 270 by omega) (by omega), ← hp1, n3, e3, show (271 : Nat) < 1000000 by omega, Z2.wI (show 270 ≤ 271 by omega) (by omega), Z2.wJ (show 270 ≤ 271 by omega) (by omega), ← hp2, n4, e4, show (272 : Nat) < 1000000 by omega, Z2.wI (show 270 ≤ 272 by omega) (by omega), Z2.wJ (show 270 ≤ 272 by omega) (by omega), ← hp3, k5a, k5b, k5, z_40, z_41, z_32, z_c0, z_c1, z_c2, ← hI3, show ((4 : Int32) < 0) = False from eq_false (by decide), show (4 : Int32).toNatClampNeg = 4 from by decide, show ((3 : Int32) < 0) = False from eq_false (by decide), z_c3, show ((2 : Int32) < 0) = False from eq_false (by decide), Nat.reduceLeDiff, and_self, hv0, q1, hv1, q3]
    exact hr
  obtain ⟨n, hn⟩ := hf_rn_ex run
  exact ⟨n, g1, I1, J1, hn, hc, hs⟩
end
