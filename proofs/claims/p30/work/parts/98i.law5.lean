/-! THE LAW: what holds between its turns; waves -/
def FR (L : Nat) (xs : Nat → Int32) (g : hf_G) (I : hf_I) : Prop := hf_e g = true ∧ 273 ≤ hf_n g ∧ hf_k g 270 = (2, 4) ∧ hf_k g 271 = (2, 3) ∧ hf_k g 272 = (3, 2) ∧ hf_k g 1000001 = (6, L) ∧ I 1000001 = xs ∧ I 1000002 = hf_wave
def GA (σ : Sg) (I : hf_I) (J : hf_J) (x : Nat) : Prop := (I 270 0 = nI (sq σ 0) ∧ I 270 1 = nI (sq σ 2) ∧ I 270 2 = nI (sP σ) ∧ I 270 3 = nI x) ∧ (I 271 0 = nI (sq σ 13) ∧ I 271 1 = nI (sq σ 14) ∧ I 271 2 = nI (sq σ 12)) ∧ J 272 0 = smA (sN σ) (sU σ 12) ∧ J 272 1 = smA (sN σ) (sW σ 12)
def Lm (σ : Sg) (x t : Nat) : Prop := sq σ 0 ≤ 4 ∧ sP σ ≤ 4 ∧ sq σ 2 ≤ 1 + 5 * t ∧ x ≤ 7 * t
def Bd (g : hf_G) (t : Nat) : Prop := hf_n g ≤ 273 + 100 * t ∧ hf_c g ≤ 273 + 100 * t ∧ hf_s g ≤ 20000 + 6400 * t
def LI (L : Nat) (xs : Nat → Int32) (σ : Sg) (g : hf_G) (I : hf_I) (J : hf_J) (t : Nat) : Prop := SOK σ ∧ Lay g ∧ RC σ I J ∧ FR L xs g I ∧ (∃ x, GA σ I J x ∧ Lm σ x t) ∧ Bd g t
/-- one turn of the law that says yes -/
def Ac (L : Nat) (xs : Nat → Int32) (t : Nat) (r : Option hf_R) : Prop := ∃ σ2 g2 I2 J2, r = some (.inl (some (.int 1)), g2, I2, J2) ∧ LI L xs σ2 g2 I2 J2 (t + 1)
section
variable {L t x x2 k m s a b c d w : Nat} {xs : Nat → Int32} {σ σ2 : Sg} {g g2 : hf_G} {I I2 : hf_I} {J J2 : hf_J} {i j kx ky ki kj : Int32} {R : R4}
theorem FR.go (h : FR L xs g I) (G : Gw m g g2) (h1 : I2 1000001 = I 1000001) (h2 : I2 1000002 = I 1000002) : FR L xs g2 I2 := by
  obtain ⟨a1, a2, a3, a4, a5, a6, a7, a8⟩ := h
  obtain ⟨-, -, -, e, n, E⟩ := G
  exact ⟨e, by omega, (E 270 (Or.inl (by omega))).1.trans a3, (E 271 (Or.inl (by omega))).1.trans a4, (E 272 (Or.inl (by omega))).1.trans a5, (E 1000001 (Or.inr (by decide))).1.trans a6, h1.trans a7, h2.trans a8⟩
theorem Bd.go (h : Bd g t) (G : Gw 100 g g2) : Bd g2 (t + 1) := by
  unfold Bd at h ⊢
  unfold Gw at G
  obtain ⟨a1, a2, a3⟩ := h
  obtain ⟨b1, b2, b3, -⟩ := G
  have b3' : hf_s g2 ≤ hf_s g + 6400 := b3
  have e : 6400 * (t + 1) = 6400 * t + 6400 := Nat.mul_succ _ _
  exact ⟨by omega, by omega, Nat.le_trans b3' (Nat.le_trans (Nat.add_le_add_right a3 6400) (Nat.le_of_eq (by rw [e, Nat.add_assoc])))⟩
theorem LI.go (h : LI L xs σ g I J t) (hσ2 : SOK σ2) (hL2 : Lay g2) (hC2 : RC σ2 I2 J2) (G : Gw 100 g g2) (h1 : I2 1000001 = I 1000001) (h2 : I2 1000002 = I 1000002) (hA : GA σ2 I2 J2 x2) (hm : Lm σ2 x2 (t + 1)) : LI L xs σ2 g2 I2 J2 (t + 1) :=
  ⟨hσ2, hL2, hC2, h.2.2.2.1.go G h1 h2, ⟨x2, hA, hm⟩, h.2.2.2.2.2.go G⟩
theorem li_wv (h : LI L xs σ g I J t) : Wv g I := ⟨h.2.1.2.2, h.2.2.2.1.2.2.2.2.2.2.2⟩
theorem Gw.r (he : hf_e g = true) : Gw 100 g g := ⟨Nat.le_add_right _ _, Nat.le_add_right _ _, Nat.le_add_right _ _, he, Ex.r⟩
theorem dz_rng (s : Nat) (w : Int) : ∀ (l : List (Int × Int)) (p : Int × R4), 0 ≤ p.1 ∧ p.1 < 2147483648 → 0 ≤ (l.foldl (dzS s w) p).1 ∧ (l.foldl (dzS s w) p).1 < 2147483648
  | [], _, h => h
  | a :: l, p, _ => dz_rng s w l (dzS s w p a) ⟨Int.emod_nonneg _ (by decide), Int.emod_lt_of_pos _ (by decide)⟩
theorem dz_i (i : Int32) (hi : 0 ≤ i) (s : Nat) (w : Int) (l : List (Int × Int)) (R : R4) : ((lZ (l.foldl (dzS s w) (i.toInt, R)).1).toInt32 < 0) = False := by
  have hz : 0 ≤ i.toInt ∧ i.toInt < 2147483648 := by
    rw [Int32.le_iff_toInt_le] at hi
    have r := iR_of i
    exact ⟨hi, by have := r.2; omega⟩
  obtain ⟨h1, h2⟩ := dz_rng s w l (i.toInt, R) hz
  rw [lZ_i, show (0 : Int32) = iZ 0 from rfl, iZ_lt ⟨by omega, by omega⟩ ⟨by decide, by decide⟩]
  exact eq_false (by omega)
theorem rp_in (ha : a < 3) (hb : b < 7) (hc : c < 2001) (hd : d < 16) : rpOK (1 + nI a) (nI b - 3) (nI c - 1000) (nI d) := by
  have e1 : 1 + nI a = iZ (1 + (a : Int)) := by rw [nI_iZ, show (1 : Int32) = iZ 1 from rfl, iZ_add]
  have e2 : nI b - 3 = iZ ((b : Int) - 3) := by rw [nI_iZ, show (3 : Int32) = iZ 3 from rfl, iZ_sub]
  have e3 : nI c - 1000 = iZ ((c : Int) - 1000) := by rw [nI_iZ, show (1000 : Int32) = iZ 1000 from rfl, iZ_sub]
  have e4 : nI d = iZ (d : Int) := nI_iZ d
  have r : ∀ z : Int, -10000 ≤ z → z ≤ 10000 → iR z := fun z h1 h2 => ⟨by omega, by omega⟩
  rw [e1, e2, e3, e4]
  unfold rpOK
  rw [show (-3 : Int32) = iZ (-3) from rfl, show (3 : Int32) = iZ 3 from rfl, show (-1000 : Int32) = iZ (-1000) from rfl, show (1000 : Int32) = iZ 1000 from rfl, show (0 : Int32) = iZ 0 from rfl, show (15 : Int32) = iZ 15 from rfl,
    iZ_le (r _ (by decide) (by decide)) (r _ (by omega) (by omega)), iZ_le (r _ (by omega) (by omega)) (r _ (by decide) (by decide)), iZ_le (r _ (by decide) (by decide)) (r _ (by omega) (by omega)), iZ_le (r _ (by omega) (by omega)) (r _ (by decide) (by decide)), iZ_le (r _ (by decide) (by decide)) (r _ (by omega) (by omega)), iZ_le (r _ (by omega) (by omega)) (r _ (by decide) (by decide)), iZ_le (r _ (by decide) (by decide)) (r _ (by omega) (by omega)), iZ_le (r _ (by omega) (by omega)) (r _ (by decide) (by decide)), iZ_eq (r _ (by omega) (by omega)) (r _ (by decide) (by decide))]
  omega
theorem l_waves (h : LI L xs σ g I J t) (ht : t ≤ 60) (x y : Int32) : Ac L xs t (hf_rn 181 0 [some (.ref 0), some (.ref 270), some (.ref 272), some (.int x), some (.int y), none, none] [] g I J) := by
  have hW := li_wv h
  have h' := h
  obtain ⟨hσ, hL, hC, hF, ⟨x3, hA, hm⟩, hB⟩ := h'
  obtain ⟨f1, f2, f3, f4, f5, f6, f7, f8⟩ := hF
  obtain ⟨⟨a0, a1, a2, a3⟩, ⟨b0, b1, b2⟩, c0, c1⟩ := hA
  have hx := lay_hx hL
  have hn6 : hf_n g + 200 < 1000000 := by have := hB.1; omega
  obtain ⟨bt, hbt, hlow⟩ := l_low x (n := 2) (by decide) (by decide)
  rw [z_n2] at hlow
  have e1 : (nI (sq σ 2) = 1) = (sq σ 2 = 1) := age_1 hσ
  have e0 : (nI bt = 0) = (bt = 0) := by rw [show (0 : Int32) = nI 0 from rfl]; exact z_ie (by omega) (by decide)
  -- what is written behind: the two momenta
  have fin : ∀ (σ2 : Sg) (g2 : hf_G) (I2 : hf_I) (J2 : hf_J), SOK σ2 → Lay g2 → RC σ2 I2 J2 → Gw 100 g g2 → (∀ a, 270 ≤ a → I2 a = I a ∧ J2 a = J a) → sq σ2 = sq σ → LI L xs σ2 g2 I2 (hf_u (hf_u J2 272 0 (smA (sN σ2) (sU σ2 12))) 272 1 (smA (sN σ2) (sW σ2 12))) (t + 1) := by
    intro σ2 g2 I2 J2 k1 k2 k3 k4 k5 k6
    have p2 : sP σ2 = sP σ := congrFun k6 15
    refine h.go (x2 := x3) k1 k2 (RC_uj k1 (RC_uj k1 k3 (by decide)) (by decide)) k4 (k5 _ (by decide)).1 (k5 _ (by decide)).1 ⟨⟨?_, ?_, ?_, ?_⟩, ⟨?_, ?_, ?_⟩, ?_, ku_same⟩ ?_
    · rw [(k5 270 (by decide)).1, k6]; exact a0
    · rw [(k5 270 (by decide)).1, k6]; exact a1
    · rw [(k5 270 (by decide)).1, p2]; exact a2
    · rw [(k5 270 (by decide)).1]; exact a3
    · rw [(k5 271 (by decide)).1, k6]; exact b0
    · rw [(k5 271 (by decide)).1, k6]; exact b1
    · rw [(k5 271 (by decide)).1, k6]; exact b2
    · rw [ku_ix (by decide), ku_same]
    · obtain ⟨m1, m2, m3, m4⟩ := hm
      unfold Lm
      rw [p2, k6]
      exact ⟨m1, m2, by omega, by omega⟩
  have z3 : ((0 : Int32) = -1000003) = False := eq_false (by decide)
  by_cases hb : bt = 0
  · -- drawn
    have E0 : (nI bt = 0) = True := by rw [e0]; exact eq_true hb
    obtain ⟨c, hc, hand⟩ := lw_and y
    obtain ⟨w, hw, hlw⟩ := l_low (x >>> (1 &&& 31)) (n := 1001) (by decide) (by decide)
    rw [show nI 1001 = 1001 from rfl] at hlw
    have hc0 : 0 ≤ nI c := nI_pos' hc
    by_cases ha : sq σ 2 = 1
    · have E1 : (nI (sq σ 2) = 1) = True := by rw [e1]; exact eq_true ha
      obtain ⟨R, s1, I2, J2, r1, r2, r3⟩ := k_draw (w := w) hσ hL hW hC hc0 (by omega) ha
      have r4 := w_draw hx r1
      have hneg := dz_i (nI c) hc0 (sq σ 0) w dzX (nowR σ)
      have q1 := k_momX s1 hL r2
      have q2 := k_momY s1 hL (RC_uj s1 r2 (show 270 ≤ 272 by decide) (k := 0) (v := smA (sN (sgR σ (sq σ) R)) (sU (sgR σ (sq σ) R) 12)))
      refine ⟨sgR σ (sq σ) R, g, I2, _, ?_, fin (sgR σ (sq σ) R) g I2 J2 s1 hL r2 (Gw.r f1) (fun a ha => ⟨r3.ii ha, r3.jj ha⟩) rfl⟩
      simp only [s181_0, s181_1, s181_2, s181_3, s181_4, s181_7, s181_8, s181_11, s181_12, s181_14, s181_15, s181_16, s181_19, s181_22, s181_23, s181_25, s181_27, s181_28, s181_29, s181_30, s181_31, s181_34, s181_37, s181_40, s181_42, s181_43, s181_44, s181_45, s181_46, s181_49, s181_50, s181_51, s181_52, s181_53, s181_54, s181_57, s181_58, s181_60, s181_63, s181_65, s181_68, s181_69, s181_72, s181_73, s181_76, s181_78, s181_80, s181_83, s181_84, s181_87, s181_88, s181_89, s181_90, s181_91, s181_93, s181_94, s181_97, s181_98, s181_100, s181_101, s181_102, s181_104, s181_107, s181_108, s181_109, s181_111, s181_112, s181_113, s181_116, s181_119, s181_122, s181_123, s181_125, s181_127, s181_128, s181_130, s181_133, s181_136, s181_138, s181_139, s181_140, s181_141, s181_142, s181_145, s181_146, s181_147, s181_148, s181_149, s181_150, s181_153, s181_154, s181_156, s181_158, s181_161, s181_162, s181_165, s181_167, s181_170, s181_171, s181_174, s181_175, hf_bd_v, hf_bd_n, hf_iv_i, hf_iv_l, hf_iv_a, hf_iv_n, hf_iv_2, z_lgl, z_lgg, z_lge, z_lgle, z_lgz, Option.getD_some, Option.isSome_some, ↓reduceIte, not_true_eq_false, not_false_eq_true, Option.toList_some, Option.toList_none, List.cons_append, List.nil_append, Nat.reduceAdd, Nat.add_assoc, ku_ne, ku_same, ne_eq, Nat.reduceEqDiff, reduceCtorEq, Nat.add_eq_left, Nat.left_eq_add, Nat.reduceEqDiff, q10, q_ne, true_or, or_true, f3, f5, z_41, z_c1, a1, E1, z3, hlow, E0, hand, hlw, r4, z_20, z_21, z_c0, hx_k hx, hx_r0 hx, hx_r1 hx, hx_r2 hx, hx_r3 hx, hx_r4 hx, hx_r5 hx, q1, q2, hneg]
    · have E1 : (nI (sq σ 2) = 1) = False := by rw [e1]; exact eq_false ha
      have r1 := k_drawX (w := w) hσ hL hC hc0 (by omega) ha
      have r4 := w_drawX2 hx r1
      have hL1 : Lay (hf_th g) := hL.tg (k := 1) (by omega)
      have hx1 := lay_hx hL1
      have q1 := k_momX hσ hL1 hC
      have q2 := k_momY hσ hL1 (RC_uj hσ hC (show 270 ≤ 272 by decide) (k := 0) (v := smA (sN σ) (sU σ 12)))
      refine ⟨σ, hf_th g, I, _, ?_, fin σ (hf_th g) I J hσ hL1 hC (Gw.tg (k := 1) f1 (by omega) (by decide)) (fun a _ => ⟨rfl, rfl⟩) rfl⟩
      simp only [s181_0, s181_1, s181_2, s181_3, s181_4, s181_7, s181_8, s181_11, s181_12, s181_14, s181_15, s181_16, s181_19, s181_22, s181_23, s181_25, s181_27, s181_28, s181_29, s181_30, s181_31, s181_34, s181_37, s181_40, s181_42, s181_43, s181_44, s181_45, s181_46, s181_49, s181_50, s181_51, s181_52, s181_53, s181_54, s181_57, s181_58, s181_60, s181_63, s181_65, s181_68, s181_69, s181_72, s181_73, s181_76, s181_78, s181_80, s181_83, s181_84, s181_87, s181_88, s181_89, s181_90, s181_91, s181_93, s181_94, s181_97, s181_98, s181_100, s181_101, s181_102, s181_104, s181_107, s181_108, s181_109, s181_111, s181_112, s181_113, s181_116, s181_119, s181_122, s181_123, s181_125, s181_127, s181_128, s181_130, s181_133, s181_136, s181_138, s181_139, s181_140, s181_141, s181_142, s181_145, s181_146, s181_147, s181_148, s181_149, s181_150, s181_153, s181_154, s181_156, s181_158, s181_161, s181_162, s181_165, s181_167, s181_170, s181_171, s181_174, s181_175, hf_bd_v, hf_bd_n, hf_iv_i, hf_iv_l, hf_iv_a, hf_iv_n, hf_iv_2, z_lgl, z_lgg, z_lge, z_lgle, z_lgz, Option.getD_some, Option.isSome_some, ↓reduceIte, not_true_eq_false, not_false_eq_true, Option.toList_some, Option.toList_none, List.cons_append, List.nil_append, Nat.reduceAdd, Nat.add_assoc, ku_ne, ku_same, ne_eq, Nat.reduceEqDiff, reduceCtorEq, Nat.add_eq_left, Nat.left_eq_add, Nat.reduceEqDiff, q10, q_ne, true_or, or_true, k_th, f3, f5, z_41, z_c1, a1, E1, z3, hlow, E0, hand, hlw, r4, z_20, z_21, z_c0, hx_k hx1, hx_r0 hx1, hx_r1 hx1, hx_r2 hx1, hx_r3 hx1, hx_r4 hx1, hx_r5 hx1, hx_k hx, hx_r0 hx, hx_r1 hx, hx_r2 hx, hx_r3 hx, hx_r4 hx, hx_r5 hx, q1, q2]
  · -- told
    have E0 : (nI bt = 0) = False := by rw [e0]; exact eq_false hb
    obtain ⟨ka, hka, la⟩ := l_low y (n := 3) (by decide) (by decide)
    obtain ⟨kb, hkb, lb⟩ := l_low (y >>> (2 &&& 31)) (n := 7) (by decide) (by decide)
    obtain ⟨kc, hkc, lc⟩ := l_low (y >>> (5 &&& 31)) (n := 2001) (by decide) (by decide)
    obtain ⟨kd, hkd, ld⟩ := l_low (y >>> (16 &&& 31)) (n := 16) (by decide) (by decide)
    rw [show nI 3 = 3 from rfl] at la
    rw [show nI 7 = 7 from rfl] at lb
    rw [show nI 2001 = 2001 from rfl] at lc
    rw [show nI 16 = 16 from rfl] at ld
    have ho := rp_in hka hkb hkc hkd
    by_cases ha : sq σ 2 = 1
    · have E1 : (nI (sq σ 2) = 1) = True := by rw [e1]; exact eq_true ha
      obtain ⟨R, s1, I2, J2, r1, r2, r3⟩ := k_ripple hσ hL hW hC ho ha
      have r4 := w_ripple hx r1
      have q1 := k_momX s1 hL r2
      have q2 := k_momY s1 hL (RC_uj s1 r2 (show 270 ≤ 272 by decide) (k := 0) (v := smA (sN (sgR σ (sq σ) R)) (sU (sgR σ (sq σ) R) 12)))
      refine ⟨sgR σ (sq σ) R, g, I2, _, ?_, fin (sgR σ (sq σ) R) g I2 J2 s1 hL r2 (Gw.r f1) (fun a ha => ⟨r3.ii ha, r3.jj ha⟩) rfl⟩
      simp only [s181_0, s181_1, s181_2, s181_3, s181_4, s181_7, s181_8, s181_11, s181_12, s181_14, s181_15, s181_16, s181_19, s181_22, s181_23, s181_25, s181_27, s181_28, s181_29, s181_30, s181_31, s181_34, s181_37, s181_40, s181_42, s181_43, s181_44, s181_45, s181_46, s181_49, s181_50, s181_51, s181_52, s181_53, s181_54, s181_57, s181_58, s181_60, s181_63, s181_65, s181_68, s181_69, s181_72, s181_73, s181_76, s181_78, s181_80, s181_83, s181_84, s181_87, s181_88, s181_89, s181_90, s181_91, s181_93, s181_94, s181_97, s181_98, s181_100, s181_101, s181_102, s181_104, s181_107, s181_108, s181_109, s181_111, s181_112, s181_113, s181_116, s181_119, s181_122, s181_123, s181_125, s181_127, s181_128, s181_130, s181_133, s181_136, s181_138, s181_139, s181_140, s181_141, s181_142, s181_145, s181_146, s181_147, s181_148, s181_149, s181_150, s181_153, s181_154, s181_156, s181_158, s181_161, s181_162, s181_165, s181_167, s181_170, s181_171, s181_174, s181_175, hf_bd_v, hf_bd_n, hf_iv_i, hf_iv_l, hf_iv_a, hf_iv_n, hf_iv_2, z_lgl, z_lgg, z_lge, z_lgle, z_lgz, Option.getD_some, Option.isSome_some, ↓reduceIte, not_true_eq_false, not_false_eq_true, Option.toList_some, Option.toList_none, List.cons_append, List.nil_append, Nat.reduceAdd, Nat.add_assoc, ku_ne, ku_same, ne_eq, Nat.reduceEqDiff, reduceCtorEq, Nat.add_eq_left, Nat.left_eq_add, Nat.reduceEqDiff, q10, q_ne, true_or, or_true, f3, f5, z_41, z_c1, a1, E1, z3, hlow, E0, la, lb, lc, ld, r4, z_20, z_21, z_c0, hx_k hx, hx_r0 hx, hx_r1 hx, hx_r2 hx, hx_r3 hx, hx_r4 hx, hx_r5 hx, q1, q2]
    · have E1 : (nI (sq σ 2) = 1) = False := by rw [e1]; exact eq_false ha
      have r1 := k_rippleX hσ hL hC ho ha
      have r4 := w_rippleX2 hx r1
      have hL1 : Lay (hf_th g) := hL.tg (k := 1) (by omega)
      have hx1 := lay_hx hL1
      have q1 := k_momX hσ hL1 hC
      have q2 := k_momY hσ hL1 (RC_uj hσ hC (show 270 ≤ 272 by decide) (k := 0) (v := smA (sN σ) (sU σ 12)))
      refine ⟨σ, hf_th g, I, _, ?_, fin σ (hf_th g) I J hσ hL1 hC (Gw.tg (k := 1) f1 (by omega) (by decide)) (fun a _ => ⟨rfl, rfl⟩) rfl⟩
      simp only [s181_0, s181_1, s181_2, s181_3, s181_4, s181_7, s181_8, s181_11, s181_12, s181_14, s181_15, s181_16, s181_19, s181_22, s181_23, s181_25, s181_27, s181_28, s181_29, s181_30, s181_31, s181_34, s181_37, s181_40, s181_42, s181_43, s181_44, s181_45, s181_46, s181_49, s181_50, s181_51, s181_52, s181_53, s181_54, s181_57, s181_58, s181_60, s181_63, s181_65, s181_68, s181_69, s181_72, s181_73, s181_76, s181_78, s181_80, s181_83, s181_84, s181_87, s181_88, s181_89, s181_90, s181_91, s181_93, s181_94, s181_97, s181_98, s181_100, s181_101, s181_102, s181_104, s181_107, s181_108, s181_109, s181_111, s181_112, s181_113, s181_116, s181_119, s181_122, s181_123, s181_125, s181_127, s181_128, s181_130, s181_133, s181_136, s181_138, s181_139, s181_140, s181_141, s181_142, s181_145, s181_146, s181_147, s181_148, s181_149, s181_150, s181_153, s181_154, s181_156, s181_158, s181_161, s181_162, s181_165, s181_167, s181_170, s181_171, s181_174, s181_175, hf_bd_v, hf_bd_n, hf_iv_i, hf_iv_l, hf_iv_a, hf_iv_n, hf_iv_2, z_lgl, z_lgg, z_lge, z_lgle, z_lgz, Option.getD_some, Option.isSome_some, ↓reduceIte, not_true_eq_false, not_false_eq_true, Option.toList_some, Option.toList_none, List.cons_append, List.nil_append, Nat.reduceAdd, Nat.add_assoc, ku_ne, ku_same, ne_eq, Nat.reduceEqDiff, reduceCtorEq, Nat.add_eq_left, Nat.left_eq_add, Nat.reduceEqDiff, q10, q_ne, true_or, or_true, k_th, f3, f5, z_41, z_c1, a1, E1, z3, hlow, E0, la, lb, lc, ld, r4, z_20, z_21, z_c0, hx_k hx1, hx_r0 hx1, hx_r1 hx1, hx_r2 hx1, hx_r3 hx1, hx_r4 hx1, hx_r5 hx1, hx_k hx, hx_r0 hx, hx_r1 hx, hx_r2 hx, hx_r3 hx, hx_r4 hx, hx_r5 hx, q1, q2]
end
