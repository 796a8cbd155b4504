/-! CONSTRUCTORS: the album, the object, the model -/
def same (g g2 : hf_G) (lo hi : Nat) : Prop := ∀ a, lo ≤ a → a < hi → hf_k g2 a = hf_k g a ∧ hf_r g2 a = hf_r g a
section
variable {g g1 g2 p : hf_G} {I : hf_I} {J : hf_J} {a b n m f f2 len i x lo hi : Nat} {v w : Option Nat} {kd : Nat × Nat}
theorem Rw.cg (h : Rw g a len) (s : same g g2 lo hi) (h1 : lo ≤ a) (h2 : a + 1 < hi) : Rw g2 a len := by
  obtain ⟨a1, a2, a3, a4⟩ := h
  have x1 := s a h1 (by omega)
  have x2 := s (a + 1) (by omega) h2
  exact ⟨x1.1.trans a1, by rw [x1.2]; exact a2, x2.1.trans a3, a4⟩
theorem Gr.cg (h : Gr g a) (s : same g g2 lo hi) (h1 : lo ≤ a) (h2 : a + 8 < hi) : Gr g2 a := by
  obtain ⟨b1, b2, b3, b4, b5, b6, b7, b8, b9⟩ := h
  have x1 := s a h1 (by omega)
  exact ⟨x1.1.trans b1, by rw [x1.2]; exact b2, by rw [x1.2]; exact b3, by rw [x1.2]; exact b4, by rw [x1.2]; exact b5, b6.cg s (by omega) (by omega), b7.cg s (by omega) (by omega), b8.cg s (by omega) (by omega), b9.cg s (by omega) (by omega)⟩
theorem Sc.cg (h : Sc g a) (s : same g g2 lo hi) (h1 : lo ≤ a) (h2 : a + 11 < hi) : Sc g2 a := by
  obtain ⟨b1, b2, b3, b4, b5⟩ := h
  have x1 := s a h1 (by omega)
  exact ⟨x1.1.trans b1, by rw [x1.2]; exact b2, by rw [x1.2]; exact b3, b4.cg s (by omega) (by omega), b5.cg s (by omega) (by omega)⟩
theorem Pc.cg (h : Pc g a) (s : same g g2 lo hi) (h1 : lo ≤ a) (h2 : a + 16 < hi) : Pc g2 a := by
  obtain ⟨b1, b2, b3, b4, b5, b6, b7⟩ := h
  have x1 := s a h1 (by omega)
  exact ⟨x1.1.trans b1, by rw [x1.2]; exact b2, by rw [x1.2]; exact b3, by rw [x1.2]; exact b4, b5.cg s (by omega) (by omega), b6.cg s (by omega) (by omega), b7.cg s (by omega) (by omega)⟩
theorem Al.cg (h : Al g) (s : same g g2 lo hi) (h1 : lo ≤ 13) (h2 : 238 ≤ hi) : Al g2 := by
  obtain ⟨b1, b2, b3, b4, b5, b6, b7, b8, b9⟩ := h
  have x1 := s 13 h1 (by omega)
  have x2 := s 14 (by omega) (by omega)
  exact ⟨x1.1.trans b1, by rw [x1.2]; exact b2, by rw [x1.2]; exact b3, by rw [x1.2]; exact b4, b5.cg s (by omega) (by omega), b6.cg s (by omega) (by omega), x2.1.trans b7, fun i hi => by rw [x2.2]; exact b8 i hi, fun i hi => (b9 i hi).cg s (by omega) (by omega)⟩
theorem Pu.cg (h : Pu g) (s : same g g2 lo hi) (h1 : lo ≤ 238) (h2 : 249 ≤ hi) : Pu g2 := by
  obtain ⟨b1, b2, b3, b4, b5, b6, b7, b8, b9, b10, b11⟩ := h
  have x1 := s 238 h1 (by omega)
  exact ⟨x1.1.trans b1, by rw [x1.2]; exact b2, by rw [x1.2]; exact b3, by rw [x1.2]; exact b4, by rw [x1.2]; exact b5, by rw [x1.2]; exact b6, b7.cg s (by omega) (by omega), b8.cg s (by omega) (by omega), b9.cg s (by omega) (by omega), b10.cg s (by omega) (by omega), b11.cg s (by omega) (by omega)⟩
theorem Jo.cg (h : Jo g) (s : same g g2 lo hi) (h1 : lo ≤ 249) (h2 : 254 ≤ hi) : Jo g2 := by
  obtain ⟨b1, b2, b3, b4, b5⟩ := h
  have x1 := s 249 h1 (by omega)
  exact ⟨x1.1.trans b1, by rw [x1.2]; exact b2, by rw [x1.2]; exact b3, b4.cg s (by omega) (by omega), b5.cg s (by omega) (by omega)⟩
theorem Un.cg (h : Un g) (s : same g g2 lo hi) (h1 : lo ≤ 254) (h2 : 257 ≤ hi) : Un g2 := by
  obtain ⟨b1, b2, b3⟩ := h
  have x1 := s 254 h1 (by omega)
  exact ⟨x1.1.trans b1, by rw [x1.2]; exact b2, b3.cg s (by omega) (by omega)⟩
theorem Sk.cg (h : Sk g) (s : same g g2 lo hi) (h1 : lo ≤ 257) (h2 : 270 ≤ hi) : Sk g2 := by
  obtain ⟨b1, b2, b3, b4, b5, b6, b7, b8, b9, b10, b11, b12, b13⟩ := h
  have x1 := s 257 h1 (by omega)
  exact ⟨x1.1.trans b1, by rw [x1.2]; exact b2, by rw [x1.2]; exact b3, by rw [x1.2]; exact b4, by rw [x1.2]; exact b5, by rw [x1.2]; exact b6, by rw [x1.2]; exact b7, b8.cg s (by omega) (by omega), b9.cg s (by omega) (by omega), b10.cg s (by omega) (by omega), b11.cg s (by omega) (by omega), b12.cg s (by omega) (by omega), b13.cg s (by omega) (by omega)⟩
theorem Hx.cg (h : Hx g) (s : same g g2 lo hi) (h1 : lo ≤ 0) (h2 : 13 ≤ hi) : Hx g2 := by
  obtain ⟨b1, b2, b3, b4, b5, b6, b7, b8⟩ := h
  have x1 := s 0 h1 (by omega)
  exact ⟨x1.1.trans b1, by rw [x1.2]; exact b2, by rw [x1.2]; exact b3, by rw [x1.2]; exact b4, by rw [x1.2]; exact b5, by rw [x1.2]; exact b6, by rw [x1.2]; exact b7, b8.cg s (by omega) (by omega)⟩
theorem Ex.same (h : Ex g g2) (h1 : hi ≤ hf_n g) : same g g2 lo hi := fun a _ ha => h.2 a (Or.inl (by omega))
theorem st_same (h : Ex p g1) (h1 : hi ≤ hf_n p) (h2 : n < lo ∨ hi ≤ n) : same p (hf_sr g1 n f v) lo hi := fun a ha hb => by
  have h3 := h.2 a (Or.inl (by omega))
  exact ⟨h3.1, by rw [sr_ne (by omega)]; exact h3.2⟩
/-- an album with i pictures made -/
def Lp (g p : hf_G) (i : Nat) : Prop := hf_n p = 34 + 17 * i ∧ hf_e p = true ∧ Ex g p ∧ hf_k p 13 = (0, 0) ∧ hf_r p 13 0 = some 14 ∧ hf_r p 13 1 = some 15 ∧ hf_r p 13 2 = some 32 ∧ Pc p 15 ∧ Rw p 32 12 ∧ hf_k p 14 = (5, 12) ∧ (∀ x, x < i → hf_r p 14 x = some (34 + 17 * x)) ∧ (∀ x, x < i → Pc p (34 + 17 * x)) ∧ hf_c p = hf_c g + (21 + 17 * i) ∧ hf_s p = hf_s g + (693 + 661 * i)
theorem k_Al (he : hf_e g = true) (hn : hf_n g = 13) (Z : Zr I J 13) : ∃ g2, hf_rn 0 0 [some (.ref 13), none] [] (hf_mk g (0, 0) 7) I J = some (.inl none, g2, I, J) ∧ Ex g g2 ∧ hf_n g2 = 238 ∧ hf_e g2 = true ∧ Al g2 ∧ hf_c g2 = hf_c g + 225 ∧ hf_s g2 = hf_s g + 8625 := by
  have loop : ∀ (d i : Nat) (p : hf_G), i + d = 12 → Lp g p i → ∃ g2, hf_rn 0 39 [some (.ref 13), some (.int (nI i))] [] p I J = some (.inl none, g2, I, J) ∧ Lp g g2 12 := by
    intro d
    induction d with
    | zero =>
      intro i p hi hp
      have e : i = 12 := by omega
      subst e
      have hp2 := hp
      obtain ⟨a1, a2, a3, a4, a5, a6, a7, a8, a9, b1, b2, b3, b4, b5⟩ := hp
      refine ⟨p, ?_, hp2⟩
      simp only [s0_39, s0_40, s0_41, s0_44, s0_45, s0_48, s0_49, s0_52, s0_53, s0_56, s0_57, s0_60, s0_61, s0_67, hf_bd_v, hf_bd_n, hf_iv_i, hf_iv_l, hf_iv_a, hf_iv_n, hf_iv_2, z_lgl, z_lgg, z_lge, z_lgle, z_lgz, Option.getD_some, Option.isSome_some, ↓reduceIte, not_true_eq_false, not_false_eq_true, Option.toList_some, Option.toList_none, List.cons_append, List.nil_append, Nat.reduceAdd, Nat.add_assoc, ku_ne, ku_same, ne_eq, Nat.reduceEqDiff, reduceCtorEq, Nat.add_eq_left, Nat.left_eq_add, Nat.reduceEqDiff, q10, q_ne, true_or, or_true, a4, a5, b1, Nat.reduceLeDiff, and_self, Nat.reduceLT, Int32.le_refl, Option.isSome_some]
    | succ d ih =>
      intro i p hi hp
      obtain ⟨a1, a2, a3, a4, a5, a6, a7, a8, a9, b1, b2, b3, b4, b5⟩ := hp
      obtain ⟨g1, r1, y1, m1, q1, w1, d1, u1⟩ := k_Pc (I := I) (J := J) a2 a1 (by omega) (Z.le (by omega))
      have hk : hf_k g1 (34 + 17 * i) = (0, 3) := w1.1
      have k13 : hf_k g1 13 = (0, 0) := (y1.2 13 (Or.inl (by omega))).1.trans a4
      have k14 : hf_k g1 14 = (5, 12) := (y1.2 14 (Or.inl (by omega))).1.trans b1
      have hlt : (nI 12 ≤ nI i) = (12 ≤ i) := z_ii (by decide) (by omega)
      have hk1 : ¬ 12 ≤ i := by omega
      have hl : Lp g (hf_sr g1 14 i (some (34 + 17 * i))) (i + 1) := by
        have sm : ∀ lo hi, hi ≤ 34 + 17 * i → (14 < lo ∨ hi ≤ 14) → same p (hf_sr g1 14 i (some (34 + 17 * i))) lo hi := fun lo hi h1 h2 => st_same y1 (by omega) h2
        refine ⟨m1, q1, st_x a3 y1 (by omega) (by omega), k13, ?_, ?_, ?_, a8.cg (sm 15 34 (by omega) (by omega)) (by omega) (by omega), a9.cg (sm 32 34 (by omega) (by omega)) (by omega) (by omega), k14, ?_, ?_, ?_, ?_⟩
        · rw [sr_ne (by decide), (y1.2 13 (Or.inl (by omega))).2]; exact a5
        · rw [sr_ne (by decide), (y1.2 13 (Or.inl (by omega))).2]; exact a6
        · rw [sr_ne (by decide), (y1.2 13 (Or.inl (by omega))).2]; exact a7
        · intro x hx
          by_cases e : x = i
          · subst e; exact sr_same
          · show hf_u (hf_r g1) 14 i _ 14 x = _
            rw [ku_ix e, (y1.2 14 (Or.inl (by omega))).2]
            exact b2 x (by omega)
        · intro x hx
          by_cases e : x = i
          · subst e
            exact w1.cg (lo := 34 + 17 * x) (hi := 34 + 17 * x + 17) (fun a ha hb => ⟨rfl, sr_ne (by omega)⟩) (by omega) (by omega)
          · exact (b3 x (by omega)).cg (sm (34 + 17 * x) (34 + 17 * i) (by omega) (by omega)) (by omega) (by omega)
        · show hf_c g1 = _
          rw [d1, b4]; omega
        · show hf_s g1 = _
          rw [u1, b5]; omega
      obtain ⟨g2, z1, z2⟩ := ih (i + 1) _ (by omega) hl
      refine ⟨g2, ?_, z2⟩
      have hA1 : 34 + 17 * i < 1000000 := by omega
      have hA2 : 13 ≤ 34 + 17 * i := by omega
      generalize 34 + 17 * i = A at *
      simp only [s0_39, s0_40, s0_41, s0_44, s0_45, s0_48, s0_49, s0_52, s0_53, s0_56, s0_57, s0_60, s0_61, hf_bd_v, hf_bd_n, hf_iv_i, hf_iv_l, hf_iv_a, hf_iv_n, hf_iv_2, z_lgl, z_lgg, z_lge, z_lgle, z_lgz, Option.getD_some, Option.isSome_some, ↓reduceIte, not_true_eq_false, not_false_eq_true, Option.toList_some, Option.toList_none, List.cons_append, List.nil_append, Nat.reduceAdd, Nat.add_assoc, ku_ne, ku_same, ne_eq, Nat.reduceEqDiff, reduceCtorEq, Nat.add_eq_left, Nat.left_eq_add, Nat.reduceEqDiff, q10, q_ne, true_or, or_true, a4, a5, b1, Nat.reduceLeDiff, and_self, Nat.reduceLT, hlt, hk1, a2, a1, hA1, Z.wI hA2 hA1, Z.wJ hA2 hA1, r1, k14, z_in (show i < 2147483648 by omega), z_cl (show i < 2147483648 by omega), show i < 12 by omega, decide_true, hk, z_1]
      rw [s0_64]
      exact z1
  obtain ⟨p0, hp0⟩ : ∃ p, p = hf_mk g (0, 0) 7 := ⟨_, rfl⟩
  have n0 : hf_n p0 = 14 := by rw [hp0]; exact congrArg (· + 1) hn
  have e0 : hf_e p0 = true := by rw [hp0]; exact he
  have k0 : hf_k p0 13 = (0, 0) := by rw [hp0, ← hn]; exact mk_k
  have x0 : Ex g p0 := by rw [hp0]; exact ex_mk (by omega)
  have c0 : hf_c p0 = hf_c g + 1 := by rw [hp0]; rfl
  have s0 : hf_s p0 = hf_s g + 7 := by rw [hp0]; rfl
  rw [← hp0]
  -- the row of pictures
  obtain ⟨g1, hg1⟩ : ∃ p, p = hf_mk p0 (5, 12) 12 := ⟨_, rfl⟩
  have y1 : Ex p0 g1 := by rw [hg1]; exact ex_mk (by omega)
  have kk1 : hf_k g1 13 = (0, 0) := (y1.2 _ (Or.inl (by omega))).1.trans k0
  obtain ⟨p1, hp1⟩ : ∃ p, p = hf_sr g1 13 0 (some 14) := ⟨_, rfl⟩
  have n1 : hf_n p1 = 15 := by rw [hp1]; show hf_n g1 = 15; rw [hg1]; exact congrArg (· + 1) n0
  have e1 : hf_e p1 = true := by rw [hp1]; show hf_e g1 = true; rw [hg1]; exact e0
  have k1 : hf_k p1 13 = (0, 0) := by rw [hp1]; exact kk1
  have x1 : Ex g p1 := by rw [hp1]; exact st_x x0 y1 (by omega) (by omega)
  have c1 : hf_c p1 = hf_c g + 2 := by rw [hp1]; show hf_c g1 = _; rw [hg1]; show hf_c p0 + 1 = _; omega
  have s1 : hf_s p1 = hf_s g + 19 := by rw [hp1]; show hf_s g1 = _; rw [hg1]; show hf_s p0 + 12 = _; omega
  have f1 : hf_r p1 13 0 = some 14 := by rw [hp1]; exact sr_same
  have a1 : hf_k p1 14 = (5, 12) := by rw [hp1]; show hf_k g1 14 = _; rw [hg1, ← n0]; exact mk_k
  -- nothing
  obtain ⟨g2, r2, y2, m2, q2, w2, d2, u2⟩ := k_Pc (I := I) (J := J) e1 n1 (by omega) (Z.le (by omega))
  have kk2 : hf_k g2 13 = (0, 0) := (y2.2 _ (Or.inl (by omega))).1.trans k1
  obtain ⟨p2, hp2⟩ : ∃ p, p = hf_sr g2 13 1 (some 15) := ⟨_, rfl⟩
  have n2 : hf_n p2 = 32 := by rw [hp2]; exact m2
  have e2 : hf_e p2 = true := by rw [hp2]; exact q2
  have k2 : hf_k p2 13 = (0, 0) := by rw [hp2]; exact kk2
  have x2 : Ex g p2 := by rw [hp2]; exact st_x x1 y2 (by omega) (by omega)
  have c2 : hf_c p2 = hf_c p1 + 17 := by rw [hp2]; exact d2
  have s2 : hf_s p2 = hf_s p1 + 661 := by rw [hp2]; exact u2
  have f2 : hf_r p2 13 0 = some 14 := by rw [hp2]; exact st_r y2 (by omega) (by decide) f1
  have f21 : hf_r p2 13 1 = some 15 := by rw [hp2]; exact sr_same
  have a2 : hf_k p2 14 = (5, 12) := by rw [hp2]; exact (y2.2 14 (Or.inl (by omega))).1.trans a1
  have v2 : Pc p2 15 := by rw [hp2]; exact w2.cg (lo := 15) (hi := 32) (fun a ha hb => ⟨rfl, sr_ne (by omega)⟩) (by omega) (by omega)
  -- reached
  obtain ⟨g3, r3, y3, m3, q3, w3, d3, u3⟩ := k_row (I := I) (J := J) (x := 12) (len := 12) e2 n2 (by omega) (by omega) rfl (Z.le (by omega))
  have kk3 : hf_k g3 13 = (0, 0) := (y3.2 _ (Or.inl (by omega))).1.trans k2
  obtain ⟨p3, hp3⟩ : ∃ p, p = hf_sr g3 13 2 (some 32) := ⟨_, rfl⟩
  have hl : Lp g p3 0 := by
    rw [hp3]
    refine ⟨m3, q3, st_x x2 y3 (by omega) (by omega), kk3, st_r y3 (by omega) (by decide) f2, st_r y3 (by omega) (by decide) f21, sr_same, v2.cg (st_same (lo := 15) (hi := 32) y3 (by omega) (by omega)) (by omega) (by omega), w3.sr (by omega), (y3.2 14 (Or.inl (by omega))).1.trans a2, fun x hx => absurd hx (by omega), fun x hx => absurd hx (by omega), ?_, ?_⟩
    · show hf_c g3 = _
      omega
    · show hf_s g3 = _
      omega
  obtain ⟨g4, z1, z2⟩ := loop 12 0 p3 rfl hl
  obtain ⟨a1, a2, a3, a4, a5, a6, a7, a8, a9, b1, b2, b3, b4, b5⟩ := z2
  refine ⟨g4, ?_, a3, a1, a2, ⟨a4, a5, a6, a7, a8, a9, b1, b2, b3⟩, by omega, by omega⟩
  simp only [s0_0, s0_1, s0_4, s0_5, s0_7, s0_10, s0_13, s0_14, s0_17, s0_18, s0_21, s0_24, s0_25, s0_28, s0_29, s0_31, s0_34, s0_37, s0_38, hf_bd_v, hf_bd_n, hf_iv_i, hf_iv_l, hf_iv_a, hf_iv_n, hf_iv_2, z_lgl, z_lgg, z_lge, z_lgle, z_lgz, Option.getD_some, Option.isSome_some, ↓reduceIte, not_true_eq_false, not_false_eq_true, Option.toList_some, Option.toList_none, List.cons_append, List.nil_append, Nat.reduceAdd, Nat.add_assoc, ku_ne, ku_same, ne_eq, Nat.reduceEqDiff, reduceCtorEq, Nat.add_eq_left, Nat.left_eq_add, Nat.reduceEqDiff, q10, q_ne, true_or, or_true, n0, e0, show (14 : Nat) < 1000000 by omega, Z.wI (show 13 ≤ 14 by omega) (by omega), Z.wJ (show 13 ≤ 14 by omega) (by omega), show ((12 : Int32) < 0) = False from eq_false (by decide), show (12 : Int32).toNatClampNeg = 12 from by decide, Nat.reduceLeDiff, ← hg1, kk1, ← hp1, n1, e1, show (15 : Nat) < 1000000 by omega, Z.wI (show 13 ≤ 15 by omega) (by omega), Z.wJ (show 13 ≤ 15 by omega) (by omega), r2, kk2, ← hp2, n2, e2, show (32 : Nat) < 1000000 by omega, Z.wI (show 13 ≤ 32 by omega) (by omega), Z.wJ (show 13 ≤ 32 by omega) (by omega), r3, kk3, ← hp3]
  exact z1
def hxJ (J : hf_J) : hf_J := hf_u (hf_u (hf_u (hf_u (hf_u (hf_u (hf_u (hf_u (hf_u (hf_u (loJ J 4) 238 0 0) 238 1 100) 0 7 200) 13 4 0) 13 5 0) 13 6 0) 257 7 0) 257 8 0) 257 9 1000) 257 11 0
def hxI (I : hf_I) : hf_I := hf_u (hf_u (loI I 4) 0 8 2) 257 10 0
theorem gw_00 {Ga : Nat → Nat → Int64} : gw J 0 Ga = J := by
  funext a
  rw [gw, if_neg (by omega)]
theorem k_Hx (he : hf_e g = true) (hn : hf_n g = 0) (Z : Zr I J 0) : ∃ g2, hf_rn 109 0 [some (.ref 0)] [] (hf_mk g (0, 9) 9) I J = some (.inl none, g2, hxI I, hxJ J) ∧ Ex g g2 ∧ hf_n g2 = 270 ∧ hf_e g2 = true ∧ (Hx g2 ∧ Al g2 ∧ Pu g2 ∧ Jo g2 ∧ Un g2 ∧ Sk g2) ∧ hf_c g2 = hf_c g + 270 ∧ hf_s g2 = hf_s g + 13982 := by
  obtain ⟨p0, hp0⟩ : ∃ p, p = hf_mk g (0, 9) 9 := ⟨_, rfl⟩
  have n0 : hf_n p0 = 1 := by rw [hp0]; exact congrArg (· + 1) hn
  have e0 : hf_e p0 = true := by rw [hp0]; exact he
  have k0 : hf_k p0 0 = (0, 9) := by rw [hp0, ← hn]; exact mk_k
  have x0 : Ex g p0 := by rw [hp0]; exact ex_mk (by omega)
  have c0 : hf_c p0 = hf_c g + 1 := by rw [hp0]; rfl
  have s0 : hf_s p0 = hf_s g + 9 := by rw [hp0]; rfl
  rw [← hp0]
  obtain ⟨g1, r1, y1, m1, q1, w1, d1, u1⟩ := k_Sc (I := I) (J := J) e0 n0 (by omega) (Z.le (by omega))
  have kk1 : hf_k g1 0 = (0, 9) := (y1.2 _ (Or.inl (by omega))).1.trans k0
  obtain ⟨p1, hp1⟩ : ∃ p, p = hf_sr g1 0 0 (some 1) := ⟨_, rfl⟩
  have n1 : hf_n p1 = 13 := by rw [hp1]; exact m1
  have e1 : hf_e p1 = true := by rw [hp1]; exact q1
  have k1 : hf_k p1 0 = (0, 9) := by rw [hp1]; exact kk1
  have x1 : Ex g p1 := by rw [hp1]; exact st_x x0 y1 (by omega) (by omega)
  have c1 : hf_c p1 = hf_c p0 + 12 := by rw [hp1]; exact d1
  have s1 : hf_s p1 = hf_s p0 + 336 := by rw [hp1]; exact u1
  have f1_1 : hf_r p1 0 0 = some 1 := by rw [hp1]; exact sr_same
  have v1_1 : Sc p1 1 := by rw [hp1]; exact w1.cg (lo := 1) (hi := 13) (fun a ha hb => ⟨rfl, sr_ne (by omega)⟩) (by omega) (by omega)
  obtain ⟨g2, r2, y2, m2, q2, w2, d2, u2⟩ := k_Al (I := I) (J := J) e1 n1 (Z.le (by omega))
  have kk2 : hf_k g2 0 = (0, 9) := (y2.2 _ (Or.inl (by omega))).1.trans k1
  obtain ⟨p2, hp2⟩ : ∃ p, p = hf_sr g2 0 1 (some 13) := ⟨_, rfl⟩
  have n2 : hf_n p2 = 238 := by rw [hp2]; exact m2
  have e2 : hf_e p2 = true := by rw [hp2]; exact q2
  have k2 : hf_k p2 0 = (0, 9) := by rw [hp2]; exact kk2
  have x2 : Ex g p2 := by rw [hp2]; exact st_x x1 y2 (by omega) (by omega)
  have c2 : hf_c p2 = hf_c p1 + 225 := by rw [hp2]; exact d2
  have s2 : hf_s p2 = hf_s p1 + 8625 := by rw [hp2]; exact u2
  have f2_2 : hf_r p2 0 1 = some 13 := by rw [hp2]; exact sr_same
  have v2_2 : Al p2  := by rw [hp2]; exact w2.cg (lo := 13) (hi := 238) (fun a ha hb => ⟨rfl, sr_ne (by omega)⟩) (by omega) (by omega)
  have f2_1 : hf_r p2 0 0 = some 1 := by rw [hp2]; exact st_r y2 (by omega) (by decide) f1_1
  have v2_1 : Sc p2 1 := by rw [hp2]; exact v1_1.cg (st_same (lo := 1) (hi := 13) y2 (by omega) (by omega)) (by omega) (by omega)
  obtain ⟨g3, r3, y3, m3, q3, w3, d3, u3⟩ := k_Pu (I := I) (J := J) e2 n2 (Z.le (by omega))
  have kk3 : hf_k g3 0 = (0, 9) := (y3.2 _ (Or.inl (by omega))).1.trans k2
  obtain ⟨p3, hp3⟩ : ∃ p, p = hf_sr g3 0 2 (some 238) := ⟨_, rfl⟩
  have n3 : hf_n p3 = 249 := by rw [hp3]; exact m3
  have e3 : hf_e p3 = true := by rw [hp3]; exact q3
  have k3 : hf_k p3 0 = (0, 9) := by rw [hp3]; exact kk3
  have x3 : Ex g p3 := by rw [hp3]; exact st_x x2 y3 (by omega) (by omega)
  have c3 : hf_c p3 = hf_c p2 + 11 := by rw [hp3]; exact d3
  have s3 : hf_s p3 = hf_s p2 + 188 := by rw [hp3]; exact u3
  have f3_3 : hf_r p3 0 2 = some 238 := by rw [hp3]; exact sr_same
  have v3_3 : Pu p3  := by rw [hp3]; exact w3.cg (lo := 238) (hi := 249) (fun a ha hb => ⟨rfl, sr_ne (by omega)⟩) (by omega) (by omega)
  have f3_1 : hf_r p3 0 0 = some 1 := by rw [hp3]; exact st_r y3 (by omega) (by decide) f2_1
  have v3_1 : Sc p3 1 := by rw [hp3]; exact v2_1.cg (st_same (lo := 1) (hi := 13) y3 (by omega) (by omega)) (by omega) (by omega)
  have f3_2 : hf_r p3 0 1 = some 13 := by rw [hp3]; exact st_r y3 (by omega) (by decide) f2_2
  have v3_2 : Al p3  := by rw [hp3]; exact v2_2.cg (st_same (lo := 13) (hi := 238) y3 (by omega) (by omega)) (by omega) (by omega)
  obtain ⟨g4, r4, y4, m4, q4, w4, d4, u4⟩ := k_Jo (I := I) (J := J) e3 n3 (Z.le (by omega))
  have kk4 : hf_k g4 0 = (0, 9) := (y4.2 _ (Or.inl (by omega))).1.trans k3
  obtain ⟨p4, hp4⟩ : ∃ p, p = hf_sr g4 0 3 (some 249) := ⟨_, rfl⟩
  have n4 : hf_n p4 = 254 := by rw [hp4]; exact m4
  have e4 : hf_e p4 = true := by rw [hp4]; exact q4
  have k4 : hf_k p4 0 = (0, 9) := by rw [hp4]; exact kk4
  have x4 : Ex g p4 := by rw [hp4]; exact st_x x3 y4 (by omega) (by omega)
  have c4 : hf_c p4 = hf_c p3 + 5 := by rw [hp4]; exact d4
  have s4 : hf_s p4 = hf_s p3 + 132 := by rw [hp4]; exact u4
  have f4_4 : hf_r p4 0 3 = some 249 := by rw [hp4]; exact sr_same
  have v4_4 : Jo p4  := by rw [hp4]; exact w4.cg (lo := 249) (hi := 254) (fun a ha hb => ⟨rfl, sr_ne (by omega)⟩) (by omega) (by omega)
  have f4_1 : hf_r p4 0 0 = some 1 := by rw [hp4]; exact st_r y4 (by omega) (by decide) f3_1
  have v4_1 : Sc p4 1 := by rw [hp4]; exact v3_1.cg (st_same (lo := 1) (hi := 13) y4 (by omega) (by omega)) (by omega) (by omega)
  have f4_2 : hf_r p4 0 1 = some 13 := by rw [hp4]; exact st_r y4 (by omega) (by decide) f3_2
  have v4_2 : Al p4  := by rw [hp4]; exact v3_2.cg (st_same (lo := 13) (hi := 238) y4 (by omega) (by omega)) (by omega) (by omega)
  have f4_3 : hf_r p4 0 2 = some 238 := by rw [hp4]; exact st_r y4 (by omega) (by decide) f3_3
  have v4_3 : Pu p4  := by rw [hp4]; exact v3_3.cg (st_same (lo := 238) (hi := 249) y4 (by omega) (by omega)) (by omega) (by omega)
  obtain ⟨g5, r5, y5, m5, q5, w5, d5, u5⟩ := k_Un (I := I) (J := J) e4 n4 (Z.le (by omega))
  have kk5 : hf_k g5 0 = (0, 9) := (y5.2 _ (Or.inl (by omega))).1.trans k4
  obtain ⟨p5, hp5⟩ : ∃ p, p = hf_sr g5 0 4 (some 254) := ⟨_, rfl⟩
  have n5 : hf_n p5 = 257 := by rw [hp5]; exact m5
  have e5 : hf_e p5 = true := by rw [hp5]; exact q5
  have k5 : hf_k p5 0 = (0, 9) := by rw [hp5]; exact kk5
  have x5 : Ex g p5 := by rw [hp5]; exact st_x x4 y5 (by omega) (by omega)
  have c5 : hf_c p5 = hf_c p4 + 3 := by rw [hp5]; exact d5
  have s5 : hf_s p5 = hf_s p4 + 66 := by rw [hp5]; exact u5
  have f5_5 : hf_r p5 0 4 = some 254 := by rw [hp5]; exact sr_same
  have v5_5 : Un p5  := by rw [hp5]; exact w5.cg (lo := 254) (hi := 257) (fun a ha hb => ⟨rfl, sr_ne (by omega)⟩) (by omega) (by omega)
  have f5_1 : hf_r p5 0 0 = some 1 := by rw [hp5]; exact st_r y5 (by omega) (by decide) f4_1
  have v5_1 : Sc p5 1 := by rw [hp5]; exact v4_1.cg (st_same (lo := 1) (hi := 13) y5 (by omega) (by omega)) (by omega) (by omega)
  have f5_2 : hf_r p5 0 1 = some 13 := by rw [hp5]; exact st_r y5 (by omega) (by decide) f4_2
  have v5_2 : Al p5  := by rw [hp5]; exact v4_2.cg (st_same (lo := 13) (hi := 238) y5 (by omega) (by omega)) (by omega) (by omega)
  have f5_3 : hf_r p5 0 2 = some 238 := by rw [hp5]; exact st_r y5 (by omega) (by decide) f4_3
  have v5_3 : Pu p5  := by rw [hp5]; exact v4_3.cg (st_same (lo := 238) (hi := 249) y5 (by omega) (by omega)) (by omega) (by omega)
  have f5_4 : hf_r p5 0 3 = some 249 := by rw [hp5]; exact st_r y5 (by omega) (by decide) f4_4
  have v5_4 : Jo p5  := by rw [hp5]; exact v4_4.cg (st_same (lo := 249) (hi := 254) y5 (by omega) (by omega)) (by omega) (by omega)
  obtain ⟨g6, r6, y6, m6, q6, w6, d6, u6⟩ := k_Sk (I := I) (J := J) e5 n5 (Z.le (by omega))
  have kk6 : hf_k g6 0 = (0, 9) := (y6.2 _ (Or.inl (by omega))).1.trans k5
  obtain ⟨p6, hp6⟩ : ∃ p, p = hf_sr g6 0 5 (some 257) := ⟨_, rfl⟩
  have n6 : hf_n p6 = 270 := by rw [hp6]; exact m6
  have e6 : hf_e p6 = true := by rw [hp6]; exact q6
  have k6 : hf_k p6 0 = (0, 9) := by rw [hp6]; exact kk6
  have x6 : Ex g p6 := by rw [hp6]; exact st_x x5 y6 (by omega) (by omega)
  have c6 : hf_c p6 = hf_c p5 + 13 := by rw [hp6]; exact d6
  have s6 : hf_s p6 = hf_s p5 + 4626 := by rw [hp6]; exact u6
  have f6_6 : hf_r p6 0 5 = some 257 := by rw [hp6]; exact sr_same
  have v6_6 : Sk p6  := by rw [hp6]; exact w6.cg (lo := 257) (hi := 270) (fun a ha hb => ⟨rfl, sr_ne (by omega)⟩) (by omega) (by omega)
  have f6_1 : hf_r p6 0 0 = some 1 := by rw [hp6]; exact st_r y6 (by omega) (by decide) f5_1
  have v6_1 : Sc p6 1 := by rw [hp6]; exact v5_1.cg (st_same (lo := 1) (hi := 13) y6 (by omega) (by omega)) (by omega) (by omega)
  have f6_2 : hf_r p6 0 1 = some 13 := by rw [hp6]; exact st_r y6 (by omega) (by decide) f5_2
  have v6_2 : Al p6  := by rw [hp6]; exact v5_2.cg (st_same (lo := 13) (hi := 238) y6 (by omega) (by omega)) (by omega) (by omega)
  have f6_3 : hf_r p6 0 2 = some 238 := by rw [hp6]; exact st_r y6 (by omega) (by decide) f5_3
  have v6_3 : Pu p6  := by rw [hp6]; exact v5_3.cg (st_same (lo := 238) (hi := 249) y6 (by omega) (by omega)) (by omega) (by omega)
  have f6_4 : hf_r p6 0 3 = some 249 := by rw [hp6]; exact st_r y6 (by omega) (by decide) f5_4
  have v6_4 : Jo p6  := by rw [hp6]; exact v5_4.cg (st_same (lo := 249) (hi := 254) y6 (by omega) (by omega)) (by omega) (by omega)
  have f6_5 : hf_r p6 0 4 = some 254 := by rw [hp6]; exact st_r y6 (by omega) (by decide) f5_5
  have v6_5 : Un p6  := by rw [hp6]; exact v5_5.cg (st_same (lo := 254) (hi := 257) y6 (by omega) (by omega)) (by omega) (by omega)
  have hHx : Hx p6 := ⟨k6, f6_1, f6_2, f6_3, f6_4, f6_5, f6_6, v6_1⟩
  refine ⟨p6, ?_, x6, n6, e6, ⟨hHx, v6_2, v6_3, v6_4, v6_5, v6_6⟩, by omega, by omega⟩
  have hbg := c_begin (I := I) (J := J) (s := 4) hHx v6_2 (by decide)
  rw [show nI 4 = 4 from rfl] at hbg
  have hz : ∀ a, a < 1000000 → I a = fun _ => 0 := fun a ha => (Z a (by omega) ha).1
  have hAlb : Alb p6 (hf_u (loI I 4) 0 8 2) (hf_u (hf_u (hf_u (loJ J 4) 238 0 0) 238 1 100) 0 7 200) 0 (fun _ => 0) (fun _ _ => 0) (fun _ _ => none) := by
    refine ⟨v6_2, by omega, ?_, ?_, fun i hi => absurd hi (by omega), fun i hi => absurd hi (by omega), fun i k hi => absurd hi (by omega), fun i k j h hi => absurd hi (by omega)⟩
    · rw [ku_ne (by decide), loI, ku_same]; rfl
    · rw [ku_ne (by decide), loI, ku_ne (by decide), ku_ne (by decide), ku_ne (by decide), ku_ne (by decide), hz 16 (by omega)]; rfl
  have hrc := c_recipes (co := 0) (fo := 0) (wi := 0) hAlb
  rw [gw_00, show (0 : Int32).toInt64 = 0 from by decide] at hrc
  simp only [s109_0, s109_1, s109_4, s109_5, s109_8, s109_9, s109_12, s109_15, s109_16, s109_19, s109_20, s109_23, s109_26, s109_27, s109_30, s109_31, s109_34, s109_37, s109_38, s109_41, s109_42, s109_45, s109_48, s109_49, s109_52, s109_53, s109_56, s109_59, s109_60, s109_63, s109_64, s109_67, s109_70, s109_71, s109_72, s109_75, s109_76, s109_79, s109_80, s109_82, s109_85, s109_86, s109_89, s109_92, s109_93, s109_94, s109_97, s109_98, s109_101, s109_102, s109_103, s109_104, s109_107, s109_108, s109_111, s109_112, s109_113, s109_116, s109_119, s109_120, s109_123, s109_124, s109_125, s109_128, hf_bd_v, hf_bd_n, hf_iv_i, hf_iv_l, hf_iv_a, hf_iv_n, hf_iv_2, z_lgl, z_lgg, z_lge, z_lgle, z_lgz, Option.getD_some, Option.isSome_some, ↓reduceIte, not_true_eq_false, not_false_eq_true, Option.toList_some, Option.toList_none, List.cons_append, List.nil_append, Nat.reduceAdd, Nat.add_assoc, ku_ne, ku_same, ne_eq, Nat.reduceEqDiff, reduceCtorEq, Nat.add_eq_left, Nat.left_eq_add, Nat.reduceEqDiff, q10, q_ne, true_or, or_true, n0, e0, show (1 : Nat) < 1000000 by omega, Z.wI (show 0 ≤ 1 by omega) (by omega), Z.wJ (show 0 ≤ 1 by omega) (by omega), r1, kk1, ← hp1, n1, e1, show (13 : Nat) < 1000000 by omega, Z.wI (show 0 ≤ 13 by omega) (by omega), Z.wJ (show 0 ≤ 13 by omega) (by omega), r2, kk2, ← hp2, n2, e2, show (238 : Nat) < 1000000 by omega, Z.wI (show 0 ≤ 238 by omega) (by omega), Z.wJ (show 0 ≤ 238 by omega) (by omega), r3, kk3, ← hp3, n3, e3, show (249 : Nat) < 1000000 by omega, Z.wI (show 0 ≤ 249 by omega) (by omega), Z.wJ (show 0 ≤ 249 by omega) (by omega), r4, kk4, ← hp4, n4, e4, show (254 : Nat) < 1000000 by omega, Z.wI (show 0 ≤ 254 by omega) (by omega), Z.wJ (show 0 ≤ 254 by omega) (by omega), r5, kk5, ← hp5, n5, e5, show (257 : Nat) < 1000000 by omega, Z.wI (show 0 ≤ 257 by omega) (by omega), Z.wJ (show 0 ≤ 257 by omega) (by omega), r6, kk6, ← hp6, hbg, hx_k hHx, hx_r0 hHx, hx_r1 hHx, hx_r2 hHx, hx_r3 hHx, hx_r4 hHx, hx_r5 hHx, pu_k v6_3, pu_r2 v6_3, pu_r3 v6_3, pu_r4 v6_3, pu_r5 v6_3, pu_r6 v6_3, sk_k v6_6, sk_r0 v6_6, sk_r1 v6_6, sk_r2 v6_6, sk_r3 v6_6, sk_r4 v6_6, sk_r5 v6_6, v6_2.1, c_putell v6_3, hrc, c_observer v6_6, c_survey v6_6, show (0 : Int32).toInt64 = 0 from by decide, show (100 : Int32).toInt64 = 100 from by decide, show (1000 : Int32).toInt64 = 1000 from by decide, hxI, hxJ]
theorem k_mrow {sl t ln : Nat} (e : hf_e p = true) (h : hf_n p = n) (hn : n < 1000000) (hk : hf_k p 270 = (0, 10)) (h270 : 270 < n) : ∃ q, q = hf_sr (hf_mk p (t, ln) ln) 270 sl (some n) ∧ hf_n q = n + 1 ∧ hf_e q = true ∧ hf_k q 270 = (0, 10) ∧ hf_k (hf_mk p (t, ln) ln) 270 = (0, 10) ∧ (hf_n g ≤ 270 → Ex g p → Ex g q) ∧ hf_r q 270 sl = some n ∧ hf_k q n = (t, ln) ∧ (∀ a, a < n → hf_k q a = hf_k p a) ∧ (∀ f, f ≠ sl → hf_r q 270 f = hf_r p 270 f) ∧ hf_c q = hf_c p + 1 ∧ hf_s q = hf_s p + ln := by
  have x : Ex p (hf_mk p (t, ln) ln) := ex_mk (by omega)
  have k2 : hf_k (hf_mk p (t, ln) ln) 270 = (0, 10) := (x.2 270 (Or.inl (by omega))).1.trans hk
  refine ⟨_, rfl, congrArg (· + 1) h, e, k2, k2, fun h1 h2 => st_x h2 x h1 (by omega), sr_same, ?_, fun a ha => (x.2 a (Or.inl (by omega))).1, fun f hf => st_r x (by omega) hf rfl, rfl, rfl⟩
  show hf_k (hf_mk p (t, ln) ln) n = _
  rw [← h]
  exact mk_k
def mdI (I : hf_I) : hf_I := hf_u (hf_u (hf_u (hf_u I 270 4 100) 270 5 200) 270 6 2) 270 12 1000
def mbI (I : hf_I) : hf_I := w2 (bgI I 4) 271 272 (nwR (I 271) (4 * 4) (fun k => ltI (nI (k / 4)) (nI 4))) (nwR (I 272) (4 * 4) (fun k => ltI (nI (k % 4)) (nI 4)))
def mbJ (J : hf_J) : hf_J := w2 J 273 274 (nwR (J 273) (4 * 4) (fun _ => 0)) (nwR (J 274) (4 * 4) (fun _ => 0))
theorem k_Md (he : hf_e g = true) (hn : hf_n g = 270) (Z : Zr I J 270) : ∃ g2, hf_rn 147 0 [some (.ref 270)] [] (hf_mk g (0, 10) 39) I J = some (.inl none, g2, mbI (mdI I), mbJ J) ∧ Ex g g2 ∧ hf_n g2 = 292 ∧ hf_e g2 = true ∧ Md g2 ∧ hf_c g2 = hf_c g + 22 ∧ hf_s g2 = hf_s g + 12212 := by
  obtain ⟨p0, hp0⟩ : ∃ p, p = hf_mk g (0, 10) 39 := ⟨_, rfl⟩
  have n0 : hf_n p0 = 271 := by rw [hp0]; exact congrArg (· + 1) hn
  have e0 : hf_e p0 = true := by rw [hp0]; exact he
  have k0 : hf_k p0 270 = (0, 10) := by rw [hp0, ← hn]; exact mk_k
  have x0 : Ex g p0 := by rw [hp0]; exact ex_mk (by omega)
  have c0 : hf_c p0 = hf_c g + 1 := by rw [hp0]; rfl
  have s0 : hf_s p0 = hf_s g + 39 := by rw [hp0]; rfl
  rw [← hp0]
  obtain ⟨p1, hp1, n1, e1, k1, kk1, xx1, f1, a1, ww1, z1, d1, u1⟩ := k_mrow (g := g) (sl := 16) (t := 2) (ln := 832) e0 n0 (by omega) k0 (by omega)
  have x1 := xx1 (by omega) x0
  obtain ⟨p2, hp2, n2, e2, k2, kk2, xx2, f2, a2, ww2, z2, d2, u2⟩ := k_mrow (g := g) (sl := 17) (t := 2) (ln := 832) e1 n1 (by omega) k1 (by omega)
  have x2 := xx2 (by omega) x1
  obtain ⟨p3, hp3, n3, e3, k3, kk3, xx3, f3, a3, ww3, z3, d3, u3⟩ := k_mrow (g := g) (sl := 18) (t := 3) (ln := 832) e2 n2 (by omega) k2 (by omega)
  have x3 := xx3 (by omega) x2
  obtain ⟨p4, hp4, n4, e4, k4, kk4, xx4, f4, a4, ww4, z4, d4, u4⟩ := k_mrow (g := g) (sl := 19) (t := 3) (ln := 832) e3 n3 (by omega) k3 (by omega)
  have x4 := xx4 (by omega) x3
  obtain ⟨p5, hp5, n5, e5, k5, kk5, xx5, f5, a5, ww5, z5, d5, u5⟩ := k_mrow (g := g) (sl := 20) (t := 2) (ln := 832) e4 n4 (by omega) k4 (by omega)
  have x5 := xx5 (by omega) x4
  obtain ⟨p6, hp6, n6, e6, k6, kk6, xx6, f6, a6, ww6, z6, d6, u6⟩ := k_mrow (g := g) (sl := 21) (t := 2) (ln := 13) e5 n5 (by omega) k5 (by omega)
  have x6 := xx6 (by omega) x5
  obtain ⟨p7, hp7, n7, e7, k7, kk7, xx7, f7, a7, ww7, z7, d7, u7⟩ := k_mrow (g := g) (sl := 22) (t := 3) (ln := 64) e6 n6 (by omega) k6 (by omega)
  have x7 := xx7 (by omega) x6
  obtain ⟨p8, hp8, n8, e8, k8, kk8, xx8, f8, a8, ww8, z8, d8, u8⟩ := k_mrow (g := g) (sl := 23) (t := 3) (ln := 64) e7 n7 (by omega) k7 (by omega)
  have x8 := xx8 (by omega) x7
  obtain ⟨p9, hp9, n9, e9, k9, kk9, xx9, f9, a9, ww9, z9, d9, u9⟩ := k_mrow (g := g) (sl := 24) (t := 2) (ln := 64) e8 n8 (by omega) k8 (by omega)
  have x9 := xx9 (by omega) x8
  obtain ⟨p10, hp10, n10, e10, k10, kk10, xx10, f10, a10, ww10, z10, d10, u10⟩ := k_mrow (g := g) (sl := 25) (t := 2) (ln := 64) e9 n9 (by omega) k9 (by omega)
  have x10 := xx10 (by omega) x9
  obtain ⟨p11, hp11, n11, e11, k11, kk11, xx11, f11, a11, ww11, z11, d11, u11⟩ := k_mrow (g := g) (sl := 26) (t := 4) (ln := 64) e10 n10 (by omega) k10 (by omega)
  have x11 := xx11 (by omega) x10
  obtain ⟨p12, hp12, n12, e12, k12, kk12, xx12, f12, a12, ww12, z12, d12, u12⟩ := k_mrow (g := g) (sl := 27) (t := 4) (ln := 768) e11 n11 (by omega) k11 (by omega)
  have x12 := xx12 (by omega) x11
  obtain ⟨p13, hp13, n13, e13, k13, kk13, xx13, f13, a13, ww13, z13, d13, u13⟩ := k_mrow (g := g) (sl := 28) (t := 2) (ln := 768) e12 n12 (by omega) k12 (by omega)
  have x13 := xx13 (by omega) x12
  obtain ⟨p14, hp14, n14, e14, k14, kk14, xx14, f14, a14, ww14, z14, d14, u14⟩ := k_mrow (g := g) (sl := 29) (t := 2) (ln := 768) e13 n13 (by omega) k13 (by omega)
  have x14 := xx14 (by omega) x13
  obtain ⟨p15, hp15, n15, e15, k15, kk15, xx15, f15, a15, ww15, z15, d15, u15⟩ := k_mrow (g := g) (sl := 30) (t := 2) (ln := 768) e14 n14 (by omega) k14 (by omega)
  have x15 := xx15 (by omega) x14
  obtain ⟨p16, hp16, n16, e16, k16, kk16, xx16, f16, a16, ww16, z16, d16, u16⟩ := k_mrow (g := g) (sl := 31) (t := 2) (ln := 768) e15 n15 (by omega) k15 (by omega)
  have x16 := xx16 (by omega) x15
  obtain ⟨p17, hp17, n17, e17, k17, kk17, xx17, f17, a17, ww17, z17, d17, u17⟩ := k_mrow (g := g) (sl := 33) (t := 2) (ln := 768) e16 n16 (by omega) k16 (by omega)
  have x17 := xx17 (by omega) x16
  obtain ⟨p18, hp18, n18, e18, k18, kk18, xx18, f18, a18, ww18, z18, d18, u18⟩ := k_mrow (g := g) (sl := 34) (t := 2) (ln := 768) e17 n17 (by omega) k17 (by omega)
  have x18 := xx18 (by omega) x17
  obtain ⟨p19, hp19, n19, e19, k19, kk19, xx19, f19, a19, ww19, z19, d19, u19⟩ := k_mrow (g := g) (sl := 35) (t := 2) (ln := 768) e18 n18 (by omega) k18 (by omega)
  have x19 := xx19 (by omega) x18
  obtain ⟨p20, hp20, n20, e20, k20, kk20, xx20, f20, a20, ww20, z20, d20, u20⟩ := k_mrow (g := g) (sl := 36) (t := 2) (ln := 768) e19 n19 (by omega) k19 (by omega)
  have x20 := xx20 (by omega) x19
  obtain ⟨p21, hp21, n21, e21, k21, kk21, xx21, f21, a21, ww21, z21, d21, u21⟩ := k_mrow (g := g) (sl := 37) (t := 4) (ln := 768) e20 n20 (by omega) k20 (by omega)
  have x21 := xx21 (by omega) x20
  have K1 : hf_k p21 271 = (2, 832) := (ww21 _ (by omega)).trans ((ww20 _ (by omega)).trans ((ww19 _ (by omega)).trans ((ww18 _ (by omega)).trans ((ww17 _ (by omega)).trans ((ww16 _ (by omega)).trans ((ww15 _ (by omega)).trans ((ww14 _ (by omega)).trans ((ww13 _ (by omega)).trans ((ww12 _ (by omega)).trans ((ww11 _ (by omega)).trans ((ww10 _ (by omega)).trans ((ww9 _ (by omega)).trans ((ww8 _ (by omega)).trans ((ww7 _ (by omega)).trans ((ww6 _ (by omega)).trans ((ww5 _ (by omega)).trans ((ww4 _ (by omega)).trans ((ww3 _ (by omega)).trans ((ww2 _ (by omega)).trans (a1))))))))))))))))))))
  have K2 : hf_k p21 272 = (2, 832) := (ww21 _ (by omega)).trans ((ww20 _ (by omega)).trans ((ww19 _ (by omega)).trans ((ww18 _ (by omega)).trans ((ww17 _ (by omega)).trans ((ww16 _ (by omega)).trans ((ww15 _ (by omega)).trans ((ww14 _ (by omega)).trans ((ww13 _ (by omega)).trans ((ww12 _ (by omega)).trans ((ww11 _ (by omega)).trans ((ww10 _ (by omega)).trans ((ww9 _ (by omega)).trans ((ww8 _ (by omega)).trans ((ww7 _ (by omega)).trans ((ww6 _ (by omega)).trans ((ww5 _ (by omega)).trans ((ww4 _ (by omega)).trans ((ww3 _ (by omega)).trans (a2)))))))))))))))))))
  have K3 : hf_k p21 273 = (3, 832) := (ww21 _ (by omega)).trans ((ww20 _ (by omega)).trans ((ww19 _ (by omega)).trans ((ww18 _ (by omega)).trans ((ww17 _ (by omega)).trans ((ww16 _ (by omega)).trans ((ww15 _ (by omega)).trans ((ww14 _ (by omega)).trans ((ww13 _ (by omega)).trans ((ww12 _ (by omega)).trans ((ww11 _ (by omega)).trans ((ww10 _ (by omega)).trans ((ww9 _ (by omega)).trans ((ww8 _ (by omega)).trans ((ww7 _ (by omega)).trans ((ww6 _ (by omega)).trans ((ww5 _ (by omega)).trans ((ww4 _ (by omega)).trans (a3))))))))))))))))))
  have K4 : hf_k p21 274 = (3, 832) := (ww21 _ (by omega)).trans ((ww20 _ (by omega)).trans ((ww19 _ (by omega)).trans ((ww18 _ (by omega)).trans ((ww17 _ (by omega)).trans ((ww16 _ (by omega)).trans ((ww15 _ (by omega)).trans ((ww14 _ (by omega)).trans ((ww13 _ (by omega)).trans ((ww12 _ (by omega)).trans ((ww11 _ (by omega)).trans ((ww10 _ (by omega)).trans ((ww9 _ (by omega)).trans ((ww8 _ (by omega)).trans ((ww7 _ (by omega)).trans ((ww6 _ (by omega)).trans ((ww5 _ (by omega)).trans (a4)))))))))))))))))
  have K5 : hf_k p21 275 = (2, 832) := (ww21 _ (by omega)).trans ((ww20 _ (by omega)).trans ((ww19 _ (by omega)).trans ((ww18 _ (by omega)).trans ((ww17 _ (by omega)).trans ((ww16 _ (by omega)).trans ((ww15 _ (by omega)).trans ((ww14 _ (by omega)).trans ((ww13 _ (by omega)).trans ((ww12 _ (by omega)).trans ((ww11 _ (by omega)).trans ((ww10 _ (by omega)).trans ((ww9 _ (by omega)).trans ((ww8 _ (by omega)).trans ((ww7 _ (by omega)).trans ((ww6 _ (by omega)).trans (a5))))))))))))))))
  have K6 : hf_k p21 276 = (2, 13) := (ww21 _ (by omega)).trans ((ww20 _ (by omega)).trans ((ww19 _ (by omega)).trans ((ww18 _ (by omega)).trans ((ww17 _ (by omega)).trans ((ww16 _ (by omega)).trans ((ww15 _ (by omega)).trans ((ww14 _ (by omega)).trans ((ww13 _ (by omega)).trans ((ww12 _ (by omega)).trans ((ww11 _ (by omega)).trans ((ww10 _ (by omega)).trans ((ww9 _ (by omega)).trans ((ww8 _ (by omega)).trans ((ww7 _ (by omega)).trans (a6)))))))))))))))
  have K7 : hf_k p21 277 = (3, 64) := (ww21 _ (by omega)).trans ((ww20 _ (by omega)).trans ((ww19 _ (by omega)).trans ((ww18 _ (by omega)).trans ((ww17 _ (by omega)).trans ((ww16 _ (by omega)).trans ((ww15 _ (by omega)).trans ((ww14 _ (by omega)).trans ((ww13 _ (by omega)).trans ((ww12 _ (by omega)).trans ((ww11 _ (by omega)).trans ((ww10 _ (by omega)).trans ((ww9 _ (by omega)).trans ((ww8 _ (by omega)).trans (a7))))))))))))))
  have K8 : hf_k p21 278 = (3, 64) := (ww21 _ (by omega)).trans ((ww20 _ (by omega)).trans ((ww19 _ (by omega)).trans ((ww18 _ (by omega)).trans ((ww17 _ (by omega)).trans ((ww16 _ (by omega)).trans ((ww15 _ (by omega)).trans ((ww14 _ (by omega)).trans ((ww13 _ (by omega)).trans ((ww12 _ (by omega)).trans ((ww11 _ (by omega)).trans ((ww10 _ (by omega)).trans ((ww9 _ (by omega)).trans (a8)))))))))))))
  have K9 : hf_k p21 279 = (2, 64) := (ww21 _ (by omega)).trans ((ww20 _ (by omega)).trans ((ww19 _ (by omega)).trans ((ww18 _ (by omega)).trans ((ww17 _ (by omega)).trans ((ww16 _ (by omega)).trans ((ww15 _ (by omega)).trans ((ww14 _ (by omega)).trans ((ww13 _ (by omega)).trans ((ww12 _ (by omega)).trans ((ww11 _ (by omega)).trans ((ww10 _ (by omega)).trans (a9))))))))))))
  have K10 : hf_k p21 280 = (2, 64) := (ww21 _ (by omega)).trans ((ww20 _ (by omega)).trans ((ww19 _ (by omega)).trans ((ww18 _ (by omega)).trans ((ww17 _ (by omega)).trans ((ww16 _ (by omega)).trans ((ww15 _ (by omega)).trans ((ww14 _ (by omega)).trans ((ww13 _ (by omega)).trans ((ww12 _ (by omega)).trans ((ww11 _ (by omega)).trans (a10)))))))))))
  have K11 : hf_k p21 281 = (4, 64) := (ww21 _ (by omega)).trans ((ww20 _ (by omega)).trans ((ww19 _ (by omega)).trans ((ww18 _ (by omega)).trans ((ww17 _ (by omega)).trans ((ww16 _ (by omega)).trans ((ww15 _ (by omega)).trans ((ww14 _ (by omega)).trans ((ww13 _ (by omega)).trans ((ww12 _ (by omega)).trans (a11))))))))))
  have K12 : hf_k p21 282 = (4, 768) := (ww21 _ (by omega)).trans ((ww20 _ (by omega)).trans ((ww19 _ (by omega)).trans ((ww18 _ (by omega)).trans ((ww17 _ (by omega)).trans ((ww16 _ (by omega)).trans ((ww15 _ (by omega)).trans ((ww14 _ (by omega)).trans ((ww13 _ (by omega)).trans (a12)))))))))
  have K13 : hf_k p21 283 = (2, 768) := (ww21 _ (by omega)).trans ((ww20 _ (by omega)).trans ((ww19 _ (by omega)).trans ((ww18 _ (by omega)).trans ((ww17 _ (by omega)).trans ((ww16 _ (by omega)).trans ((ww15 _ (by omega)).trans ((ww14 _ (by omega)).trans (a13))))))))
  have K14 : hf_k p21 284 = (2, 768) := (ww21 _ (by omega)).trans ((ww20 _ (by omega)).trans ((ww19 _ (by omega)).trans ((ww18 _ (by omega)).trans ((ww17 _ (by omega)).trans ((ww16 _ (by omega)).trans ((ww15 _ (by omega)).trans (a14)))))))
  have K15 : hf_k p21 285 = (2, 768) := (ww21 _ (by omega)).trans ((ww20 _ (by omega)).trans ((ww19 _ (by omega)).trans ((ww18 _ (by omega)).trans ((ww17 _ (by omega)).trans ((ww16 _ (by omega)).trans (a15))))))
  have K16 : hf_k p21 286 = (2, 768) := (ww21 _ (by omega)).trans ((ww20 _ (by omega)).trans ((ww19 _ (by omega)).trans ((ww18 _ (by omega)).trans ((ww17 _ (by omega)).trans (a16)))))
  have K17 : hf_k p21 287 = (2, 768) := (ww21 _ (by omega)).trans ((ww20 _ (by omega)).trans ((ww19 _ (by omega)).trans ((ww18 _ (by omega)).trans (a17))))
  have K18 : hf_k p21 288 = (2, 768) := (ww21 _ (by omega)).trans ((ww20 _ (by omega)).trans ((ww19 _ (by omega)).trans (a18)))
  have K19 : hf_k p21 289 = (2, 768) := (ww21 _ (by omega)).trans ((ww20 _ (by omega)).trans (a19))
  have K20 : hf_k p21 290 = (2, 768) := (ww21 _ (by omega)).trans (a20)
  have K21 : hf_k p21 291 = (4, 768) := a21
  have F1 : hf_r p21 270 16 = some 271 := (z21 _ (by decide)).trans ((z20 _ (by decide)).trans ((z19 _ (by decide)).trans ((z18 _ (by decide)).trans ((z17 _ (by decide)).trans ((z16 _ (by decide)).trans ((z15 _ (by decide)).trans ((z14 _ (by decide)).trans ((z13 _ (by decide)).trans ((z12 _ (by decide)).trans ((z11 _ (by decide)).trans ((z10 _ (by decide)).trans ((z9 _ (by decide)).trans ((z8 _ (by decide)).trans ((z7 _ (by decide)).trans ((z6 _ (by decide)).trans ((z5 _ (by decide)).trans ((z4 _ (by decide)).trans ((z3 _ (by decide)).trans ((z2 _ (by decide)).trans (f1))))))))))))))))))))
  have F2 : hf_r p21 270 17 = some 272 := (z21 _ (by decide)).trans ((z20 _ (by decide)).trans ((z19 _ (by decide)).trans ((z18 _ (by decide)).trans ((z17 _ (by decide)).trans ((z16 _ (by decide)).trans ((z15 _ (by decide)).trans ((z14 _ (by decide)).trans ((z13 _ (by decide)).trans ((z12 _ (by decide)).trans ((z11 _ (by decide)).trans ((z10 _ (by decide)).trans ((z9 _ (by decide)).trans ((z8 _ (by decide)).trans ((z7 _ (by decide)).trans ((z6 _ (by decide)).trans ((z5 _ (by decide)).trans ((z4 _ (by decide)).trans ((z3 _ (by decide)).trans (f2)))))))))))))))))))
  have F3 : hf_r p21 270 18 = some 273 := (z21 _ (by decide)).trans ((z20 _ (by decide)).trans ((z19 _ (by decide)).trans ((z18 _ (by decide)).trans ((z17 _ (by decide)).trans ((z16 _ (by decide)).trans ((z15 _ (by decide)).trans ((z14 _ (by decide)).trans ((z13 _ (by decide)).trans ((z12 _ (by decide)).trans ((z11 _ (by decide)).trans ((z10 _ (by decide)).trans ((z9 _ (by decide)).trans ((z8 _ (by decide)).trans ((z7 _ (by decide)).trans ((z6 _ (by decide)).trans ((z5 _ (by decide)).trans ((z4 _ (by decide)).trans (f3))))))))))))))))))
  have F4 : hf_r p21 270 19 = some 274 := (z21 _ (by decide)).trans ((z20 _ (by decide)).trans ((z19 _ (by decide)).trans ((z18 _ (by decide)).trans ((z17 _ (by decide)).trans ((z16 _ (by decide)).trans ((z15 _ (by decide)).trans ((z14 _ (by decide)).trans ((z13 _ (by decide)).trans ((z12 _ (by decide)).trans ((z11 _ (by decide)).trans ((z10 _ (by decide)).trans ((z9 _ (by decide)).trans ((z8 _ (by decide)).trans ((z7 _ (by decide)).trans ((z6 _ (by decide)).trans ((z5 _ (by decide)).trans (f4)))))))))))))))))
  have F5 : hf_r p21 270 20 = some 275 := (z21 _ (by decide)).trans ((z20 _ (by decide)).trans ((z19 _ (by decide)).trans ((z18 _ (by decide)).trans ((z17 _ (by decide)).trans ((z16 _ (by decide)).trans ((z15 _ (by decide)).trans ((z14 _ (by decide)).trans ((z13 _ (by decide)).trans ((z12 _ (by decide)).trans ((z11 _ (by decide)).trans ((z10 _ (by decide)).trans ((z9 _ (by decide)).trans ((z8 _ (by decide)).trans ((z7 _ (by decide)).trans ((z6 _ (by decide)).trans (f5))))))))))))))))
  have F6 : hf_r p21 270 21 = some 276 := (z21 _ (by decide)).trans ((z20 _ (by decide)).trans ((z19 _ (by decide)).trans ((z18 _ (by decide)).trans ((z17 _ (by decide)).trans ((z16 _ (by decide)).trans ((z15 _ (by decide)).trans ((z14 _ (by decide)).trans ((z13 _ (by decide)).trans ((z12 _ (by decide)).trans ((z11 _ (by decide)).trans ((z10 _ (by decide)).trans ((z9 _ (by decide)).trans ((z8 _ (by decide)).trans ((z7 _ (by decide)).trans (f6)))))))))))))))
  have F7 : hf_r p21 270 22 = some 277 := (z21 _ (by decide)).trans ((z20 _ (by decide)).trans ((z19 _ (by decide)).trans ((z18 _ (by decide)).trans ((z17 _ (by decide)).trans ((z16 _ (by decide)).trans ((z15 _ (by decide)).trans ((z14 _ (by decide)).trans ((z13 _ (by decide)).trans ((z12 _ (by decide)).trans ((z11 _ (by decide)).trans ((z10 _ (by decide)).trans ((z9 _ (by decide)).trans ((z8 _ (by decide)).trans (f7))))))))))))))
  have F8 : hf_r p21 270 23 = some 278 := (z21 _ (by decide)).trans ((z20 _ (by decide)).trans ((z19 _ (by decide)).trans ((z18 _ (by decide)).trans ((z17 _ (by decide)).trans ((z16 _ (by decide)).trans ((z15 _ (by decide)).trans ((z14 _ (by decide)).trans ((z13 _ (by decide)).trans ((z12 _ (by decide)).trans ((z11 _ (by decide)).trans ((z10 _ (by decide)).trans ((z9 _ (by decide)).trans (f8)))))))))))))
  have F9 : hf_r p21 270 24 = some 279 := (z21 _ (by decide)).trans ((z20 _ (by decide)).trans ((z19 _ (by decide)).trans ((z18 _ (by decide)).trans ((z17 _ (by decide)).trans ((z16 _ (by decide)).trans ((z15 _ (by decide)).trans ((z14 _ (by decide)).trans ((z13 _ (by decide)).trans ((z12 _ (by decide)).trans ((z11 _ (by decide)).trans ((z10 _ (by decide)).trans (f9))))))))))))
  have F10 : hf_r p21 270 25 = some 280 := (z21 _ (by decide)).trans ((z20 _ (by decide)).trans ((z19 _ (by decide)).trans ((z18 _ (by decide)).trans ((z17 _ (by decide)).trans ((z16 _ (by decide)).trans ((z15 _ (by decide)).trans ((z14 _ (by decide)).trans ((z13 _ (by decide)).trans ((z12 _ (by decide)).trans ((z11 _ (by decide)).trans (f10)))))))))))
  have F11 : hf_r p21 270 26 = some 281 := (z21 _ (by decide)).trans ((z20 _ (by decide)).trans ((z19 _ (by decide)).trans ((z18 _ (by decide)).trans ((z17 _ (by decide)).trans ((z16 _ (by decide)).trans ((z15 _ (by decide)).trans ((z14 _ (by decide)).trans ((z13 _ (by decide)).trans ((z12 _ (by decide)).trans (f11))))))))))
  have F12 : hf_r p21 270 27 = some 282 := (z21 _ (by decide)).trans ((z20 _ (by decide)).trans ((z19 _ (by decide)).trans ((z18 _ (by decide)).trans ((z17 _ (by decide)).trans ((z16 _ (by decide)).trans ((z15 _ (by decide)).trans ((z14 _ (by decide)).trans ((z13 _ (by decide)).trans (f12)))))))))
  have F13 : hf_r p21 270 28 = some 283 := (z21 _ (by decide)).trans ((z20 _ (by decide)).trans ((z19 _ (by decide)).trans ((z18 _ (by decide)).trans ((z17 _ (by decide)).trans ((z16 _ (by decide)).trans ((z15 _ (by decide)).trans ((z14 _ (by decide)).trans (f13))))))))
  have F14 : hf_r p21 270 29 = some 284 := (z21 _ (by decide)).trans ((z20 _ (by decide)).trans ((z19 _ (by decide)).trans ((z18 _ (by decide)).trans ((z17 _ (by decide)).trans ((z16 _ (by decide)).trans ((z15 _ (by decide)).trans (f14)))))))
  have F15 : hf_r p21 270 30 = some 285 := (z21 _ (by decide)).trans ((z20 _ (by decide)).trans ((z19 _ (by decide)).trans ((z18 _ (by decide)).trans ((z17 _ (by decide)).trans ((z16 _ (by decide)).trans (f15))))))
  have F16 : hf_r p21 270 31 = some 286 := (z21 _ (by decide)).trans ((z20 _ (by decide)).trans ((z19 _ (by decide)).trans ((z18 _ (by decide)).trans ((z17 _ (by decide)).trans (f16)))))
  have F17 : hf_r p21 270 33 = some 287 := (z21 _ (by decide)).trans ((z20 _ (by decide)).trans ((z19 _ (by decide)).trans ((z18 _ (by decide)).trans (f17))))
  have F18 : hf_r p21 270 34 = some 288 := (z21 _ (by decide)).trans ((z20 _ (by decide)).trans ((z19 _ (by decide)).trans (f18)))
  have F19 : hf_r p21 270 35 = some 289 := (z21 _ (by decide)).trans ((z20 _ (by decide)).trans (f19))
  have F20 : hf_r p21 270 36 = some 290 := (z21 _ (by decide)).trans (f20)
  have F21 : hf_r p21 270 37 = some 291 := f21
  have hMd : Md p21 := ⟨k21, F1, K1, F2, K2, F3, K3, F4, K4, F5, K5, F6, K6, F7, K7, F8, K8, F9, K9, F10, K10, F11, K11, F12, K12, F13, K13, F14, K14, F15, K15, F16, K16, F17, K17, F18, K18, F19, K19, F20, K20, F21, K21⟩
  refine ⟨p21, ?_, x21, n21, e21, hMd, by omega, by omega⟩
  have hbg := m_begins (I := mdI I) (J := J) (n := 4) hMd (by decide) (by decide)
  rw [show nI 4 = 4 from rfl] at hbg
  have eI : w2 (bgI (mdI I) 4) 271 272 (nwR (mdI I 271) (4 * 4) (fun k => ltI (nI (k / 4)) 4)) (nwR (mdI I 272) (4 * 4) (fun k => ltI (nI (k % 4)) 4)) = mbI (mdI I) := rfl
  have eJ : w2 J 273 274 (nwR (J 273) (4 * 4) (fun _ => 0)) (nwR (J 274) (4 * 4) (fun _ => 0)) = mbJ J := rfl
  rw [eI, eJ] at hbg
  unfold mdI at hbg ⊢
  simp only [s147_0, s147_1, s147_4, s147_5, s147_8, s147_10, s147_13, s147_14, s147_17, s147_19, s147_22, s147_23, s147_26, s147_28, s147_31, s147_32, s147_35, s147_37, s147_40, s147_41, s147_44, s147_46, s147_49, s147_50, s147_52, s147_54, s147_57, s147_58, s147_60, s147_62, s147_65, s147_66, s147_68, s147_70, s147_73, s147_74, s147_76, s147_78, s147_81, s147_82, s147_84, s147_86, s147_89, s147_90, s147_92, s147_94, s147_97, s147_98, s147_101, s147_103, s147_106, s147_107, s147_110, s147_112, s147_115, s147_116, s147_119, s147_121, s147_124, s147_125, s147_128, s147_130, s147_133, s147_134, s147_137, s147_139, s147_142, s147_143, s147_146, s147_148, s147_151, s147_152, s147_155, s147_157, s147_160, s147_161, s147_164, s147_166, s147_169, s147_170, s147_173, s147_175, s147_178, s147_179, s147_182, s147_184, s147_187, s147_188, s147_190, s147_193, s147_194, s147_197, s147_200, s147_201, s147_202, s147_205, s147_206, s147_209, s147_212, s147_213, s147_214, s147_217, hf_bd_v, hf_bd_n, hf_iv_i, hf_iv_l, hf_iv_a, hf_iv_n, hf_iv_2, z_lgl, z_lgg, z_lge, z_lgle, z_lgz, Option.getD_some, Option.isSome_some, ↓reduceIte, not_true_eq_false, not_false_eq_true, Option.toList_some, Option.toList_none, List.cons_append, List.nil_append, Nat.reduceAdd, Nat.add_assoc, ku_ne, ku_same, ne_eq, Nat.reduceEqDiff, reduceCtorEq, Nat.add_eq_left, Nat.left_eq_add, Nat.reduceEqDiff, q10, q_ne, true_or, or_true, n0, e0, show (271 : Nat) < 1000000 by omega, Z.wI (show 270 ≤ 271 by omega) (by omega), Z.wJ (show 270 ≤ 271 by omega) (by omega), kk1, ← hp1, n1, e1, show (272 : Nat) < 1000000 by omega, Z.wI (show 270 ≤ 272 by omega) (by omega), Z.wJ (show 270 ≤ 272 by omega) (by omega), kk2, ← hp2, n2, e2, show (273 : Nat) < 1000000 by omega, Z.wI (show 270 ≤ 273 by omega) (by omega), Z.wJ (show 270 ≤ 273 by omega) (by omega), kk3, ← hp3, n3, e3, show (274 : Nat) < 1000000 by omega, Z.wI (show 270 ≤ 274 by omega) (by omega), Z.wJ (show 270 ≤ 274 by omega) (by omega), kk4, ← hp4, n4, e4, show (275 : Nat) < 1000000 by omega, Z.wI (show 270 ≤ 275 by omega) (by omega), Z.wJ (show 270 ≤ 275 by omega) (by omega), kk5, ← hp5, n5, e5, show (276 : Nat) < 1000000 by omega, Z.wI (show 270 ≤ 276 by omega) (by omega), Z.wJ (show 270 ≤ 276 by omega) (by omega), kk6, ← hp6, n6, e6, show (277 : Nat) < 1000000 by omega, Z.wI (show 270 ≤ 277 by omega) (by omega), Z.wJ (show 270 ≤ 277 by omega) (by omega), kk7, ← hp7, n7, e7, show (278 : Nat) < 1000000 by omega, Z.wI (show 270 ≤ 278 by omega) (by omega), Z.wJ (show 270 ≤ 278 by omega) (by omega), kk8, ← hp8, n8, e8, show (279 : Nat) < 1000000 by omega, Z.wI (show 270 ≤ 279 by omega) (by omega), Z.wJ (show 270 ≤ 279 by omega) (by omega), kk9, ← hp9, n9, e9, show (280 : Nat) < 1000000 by omega, Z.wI (show 270 ≤ 280 by omega) (by omega), Z.wJ (show 270 ≤ 280 by omega) (by omega), kk10, ← hp10, n10, e10, show (281 : Nat) < 1000000 by omega, Z.wI (show 270 ≤ 281 by omega) (by omega), Z.wJ (show 270 ≤ 281 by omega) (by omega), kk11, ← hp11, n11, e11, show (282 : Nat) < 1000000 by omega, Z.wI (show 270 ≤ 282 by omega) (by omega), Z.wJ (show 270 ≤ 282 by omega) (by omega), kk12, ← hp12, n12, e12, show (283 : Nat) < 1000000 by omega, Z.wI (show 270 ≤ 283 by omega) (by omega), Z.wJ (show 270 ≤ 283 by omega) (by omega), kk13, ← hp13, n13, e13, show (284 : Nat) < 1000000 by omega, Z.wI (show 270 ≤ 284 by omega) (by omega), Z.wJ (show 270 ≤ 284 by omega) (by omega), kk14, ← hp14, n14, e14, show (285 : Nat) < 1000000 by omega, Z.wI (show 270 ≤ 285 by omega) (by omega), Z.wJ (show 270 ≤ 285 by omega) (by omega), kk15, ← hp15, n15, e15, show (286 : Nat) < 1000000 by omega, Z.wI (show 270 ≤ 286 by omega) (by omega), Z.wJ (show 270 ≤ 286 by omega) (by omega), kk16, ← hp16, n16, e16, show (287 : Nat) < 1000000 by omega, Z.wI (show 270 ≤ 287 by omega) (by omega), Z.wJ (show 270 ≤ 287 by omega) (by omega), kk17, ← hp17, n17, e17, show (288 : Nat) < 1000000 by omega, Z.wI (show 270 ≤ 288 by omega) (by omega), Z.wJ (show 270 ≤ 288 by omega) (by omega), kk18, ← hp18, n18, e18, show (289 : Nat) < 1000000 by omega, Z.wI (show 270 ≤ 289 by omega) (by omega), Z.wJ (show 270 ≤ 289 by omega) (by omega), kk19, ← hp19, n19, e19, show (290 : Nat) < 1000000 by omega, Z.wI (show 270 ≤ 290 by omega) (by omega), Z.wJ (show 270 ≤ 290 by omega) (by omega), kk20, ← hp20, n20, e20, show (291 : Nat) < 1000000 by omega, Z.wI (show 270 ≤ 291 by omega) (by omega), Z.wJ (show 270 ≤ 291 by omega) (by omega), kk21, ← hp21, k21, show ((13 : Int32) < 0) = False from eq_false (by decide), show (13 : Int32).toNatClampNeg = 13 from by decide, show ((64 : Int32) < 0) = False from eq_false (by decide), show (64 : Int32).toNatClampNeg = 64 from by decide, show ((768 : Int32) < 0) = False from eq_false (by decide), show (768 : Int32).toNatClampNeg = 768 from by decide, show ((832 : Int32) < 0) = False from eq_false (by decide), show (832 : Int32).toNatClampNeg = 832 from by decide, Nat.reduceLeDiff, hbg]
end
