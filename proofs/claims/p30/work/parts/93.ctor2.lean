/-! CONSTRUCTORS: the album, the object, the model -/
def same (g g2 : hf_G) (lo hi : Nat) : Prop := ∀ a, lo ≤ a → a < hi → hf_k g2 a = hf_k g a ∧ hf_r g2 a = hf_r g a
section
variable {g g1 g2 p : hf_G} {I : hf_I} {J : hf_J} {a b n m f f2 len i x lo hi : Nat} {v w : Option Nat} {kd : Nat × Nat}
theorem Rw.cg (h : Rw g a len) (s : same g g2 lo hi) (h1 : lo ≤ a) (h2 : a + 1 < hi) : Rw g2 a len := by
  obtain ⟨a1, a2, a3, a4⟩ := h
  have x1 := s a h1 (by omega)
  have x2 := s (a + 1) (by omega) h2
  exact ⟨x1.1.trans a1, by rw [x1.2]; exact a2, x2.1.trans a3, a4⟩
theorem Gr.cg (h : Gr g a) (s : same g g2 lo hi) (h1 : lo ≤ a) (h2 : a + 8 < hi) : Gr g2 a := by
  obtain ⟨b1, b2, b3, b4, b5, b6, b7, b8, b9⟩ := h
  have x1 := s a h1 (by omega)
  exact ⟨x1.1.trans b1, by rw [x1.2]; exact b2, by rw [x1.2]; exact b3, by rw [x1.2]; exact b4, by rw [x1.2]; exact b5, b6.cg s (by omega) (by omega), b7.cg s (by omega) (by omega), b8.cg s (by omega) (by omega), b9.cg s (by omega) (by omega)⟩
theorem Sc.cg (h : Sc g a) (s : same g g2 lo hi) (h1 : lo ≤ a) (h2 : a + 11 < hi) : Sc g2 a := by
  obtain ⟨b1, b2, b3, b4, b5⟩ := h
  have x1 := s a h1 (by omega)
  exact ⟨x1.1.trans b1, by rw [x1.2]; exact b2, by rw [x1.2]; exact b3, b4.cg s (by omega) (by omega), b5.cg s (by omega) (by omega)⟩
theorem Pc.cg (h : Pc g a) (s : same g g2 lo hi) (h1 : lo ≤ a) (h2 : a + 16 < hi) : Pc g2 a := by
  obtain ⟨b1, b2, b3, b4, b5, b6, b7⟩ := h
  have x1 := s a h1 (by omega)
  exact ⟨x1.1.trans b1, by rw [x1.2]; exact b2, by rw [x1.2]; exact b3, by rw [x1.2]; exact b4, b5.cg s (by omega) (by omega), b6.cg s (by omega) (by omega), b7.cg s (by omega) (by omega)⟩
theorem Al.cg (h : Al g) (s : same g g2 lo hi) (h1 : lo ≤ 13) (h2 : 238 ≤ hi) : Al g2 := by
  obtain ⟨b1, b2, b3, b4, b5, b6, b7, b8, b9⟩ := h
  have x1 := s 13 h1 (by omega)
  have x2 := s 14 (by omega) (by omega)
  exact ⟨x1.1.trans b1, by rw [x1.2]; exact b2, by rw [x1.2]; exact b3, by rw [x1.2]; exact b4, b5.cg s (by omega) (by omega), b6.cg s (by omega) (by omega), x2.1.trans b7, fun i hi => by rw [x2.2]; exact b8 i hi, fun i hi => (b9 i hi).cg s (by omega) (by omega)⟩
theorem Pu.cg (h : Pu g) (s : same g g2 lo hi) (h1 : lo ≤ 238) (h2 : 249 ≤ hi) : Pu g2 := by
  obtain ⟨b1, b2, b3, b4, b5, b6, b7, b8, b9, b10, b11⟩ := h
  have x1 := s 238 h1 (by omega)
  exact ⟨x1.1.trans b1, by rw [x1.2]; exact b2, by rw [x1.2]; exact b3, by rw [x1.2]; exact b4, by rw [x1.2]; exact b5, by rw [x1.2]; exact b6, b7.cg s (by omega) (by omega), b8.cg s (by omega) (by omega), b9.cg s (by omega) (by omega), b10.cg s (by omega) (by omega), b11.cg s (by omega) (by omega)⟩
theorem Jo.cg (h : Jo g) (s : same g g2 lo hi) (h1 : lo ≤ 249) (h2 : 254 ≤ hi) : Jo g2 := by
  obtain ⟨b1, b2, b3, b4, b5⟩ := h
  have x1 := s 249 h1 (by omega)
  exact ⟨x1.1.trans b1, by rw [x1.2]; exact b2, by rw [x1.2]; exact b3, b4.cg s (by omega) (by omega), b5.cg s (by omega) (by omega)⟩
theorem Un.cg (h : Un g) (s : same g g2 lo hi) (h1 : lo ≤ 254) (h2 : 257 ≤ hi) : Un g2 := by
  obtain ⟨b1, b2, b3⟩ := h
  have x1 := s 254 h1 (by omega)
  exact ⟨x1.1.trans b1, by rw [x1.2]; exact b2, b3.cg s (by omega) (by omega)⟩
theorem Sk.cg (h : Sk g) (s : same g g2 lo hi) (h1 : lo ≤ 257) (h2 : 270 ≤ hi) : Sk g2 := by
  obtain ⟨b1, b2, b3, b4, b5, b6, b7, b8, b9, b10, b11, b12, b13⟩ := h
  have x1 := s 257 h1 (by omega)
  exact ⟨x1.1.trans b1, by rw [x1.2]; exact b2, by rw [x1.2]; exact b3, by rw [x1.2]; exact b4, by rw [x1.2]; exact b5, by rw [x1.2]; exact b6, by rw [x1.2]; exact b7, b8.cg s (by omega) (by omega), b9.cg s (by omega) (by omega), b10.cg s (by omega) (by omega), b11.cg s (by omega) (by omega), b12.cg s (by omega) (by omega), b13.cg s (by omega) (by omega)⟩
theorem Hx.cg (h : Hx g) (s : same g g2 lo hi) (h1 : lo ≤ 0) (h2 : 13 ≤ hi) : Hx g2 := by
  obtain ⟨b1, b2, b3, b4, b5, b6, b7, b8⟩ := h
  have x1 := s 0 h1 (by omega)
  exact ⟨x1.1.trans b1, by rw [x1.2]; exact b2, by rw [x1.2]; exact b3, by rw [x1.2]; exact b4, by rw [x1.2]; exact b5, by rw [x1.2]; exact b6, by rw [x1.2]; exact b7, b8.cg s (by omega) (by omega)⟩
theorem Ex.same (h : Ex g g2) (h1 : hi ≤ hf_n g) : same g g2 lo hi := fun a _ ha => h.2 a (Or.inl (by omega))
theorem st_same (h : Ex p g1) (h1 : hi ≤ hf_n p) (h2 : n < lo ∨ hi ≤ n) : same p (hf_sr g1 n f v) lo hi := fun a ha hb => by
  have h3 := h.2 a (Or.inl (by omega))
  exact ⟨h3.1, by rw [sr_ne (by omega)]; exact h3.2⟩
/-- an album with i pictures made -/
def Lp (g p : hf_G) (i : Nat) : Prop := hf_n p = 34 + 17 * i ∧ hf_e p = true ∧ Ex g p ∧ hf_k p 13 = (0, 0) ∧ hf_r p 13 0 = some 14 ∧ hf_r p 13 1 = some 15 ∧ hf_r p 13 2 = some 32 ∧ Pc p 15 ∧ Rw p 32 12 ∧ hf_k p 14 = (5, 12) ∧ (∀ x, x < i → hf_r p 14 x = some (34 + 17 * x)) ∧ (∀ x, x < i → Pc p (34 + 17 * x)) ∧ hf_c p = hf_c g + (21 + 17 * i) ∧ hf_s p = hf_s g + (693 + 661 * i)
theorem k_Al (he : hf_e g = true) (hn : hf_n g = 13) (Z : Zr I J 13) : ∃ g2, hf_rn 0 0 [some (.ref 13), none] [] (hf_mk g (0, 0) 7) I J = some (.inl none, g2, I, J) ∧ Ex g g2 ∧ hf_n g2 = 238 ∧ hf_e g2 = true ∧ Al g2 ∧ hf_c g2 = hf_c g + 225 ∧ hf_s g2 = hf_s g + 8625 := by
  have loop : ∀ (d i : Nat) (p : hf_G), i + d = 12 → Lp g p i → ∃ g2, hf_rn 0 39 [some (.ref 13), some (.int (nI i))] [] p I J = some (.inl none, g2, I, J) ∧ Lp g g2 12 := by
    intro d
    induction d with
    | zero =>
      intro i p hi hp
      have e : i = 12 := by omega
      subst e
      have hp2 := hp
      obtain ⟨a1, a2, a3, a4, a5, a6, a7, a8, a9, b1, b2, b3, b4, b5⟩ := hp
      refine ⟨p, ?_, hp2⟩
      simp only [s0_39, s0_40, s0_41, s0_44, s0_45, s0_48, s0_49, s0_52, s0_53, s0_56, s0_57, s0_60, s0_61, s0_67, hf_bd_v, hf_bd_n, hf_iv_i, hf_iv_l, hf_iv_a, hf_iv_n, hf_iv_2, z_lgl, z_lgg, z_lge, z_lgle, z_lgz, Option.getD_some, Option.isSome_some, ↓reduceIte, not_true_eq_false, not_false_eq_true, Option.toList_some, Option.toList_none, List.cons_append, List.nil_append, Nat.reduceAdd, Nat.add_assoc, ku_ne, ku_same, ne_eq, Nat.reduceEqDiff, reduceCtorEq, Nat.add_eq_left, Nat.left_eq_add, Nat.reduceEqDiff, q10, q_ne, true_or, or_true, a4, a5, b1, Nat.reduceLeDiff, and_self, Nat.reduceLT, Int32.le_refl, Option.isSome_some]
    | succ d ih =>
      intro i p hi hp
      obtain ⟨a1, a2, a3, a4, a5, a6, a7, a8, a9, b1, b2, b3, b4, b5⟩ := hp
      obtain ⟨g1, r1, y1, m1, q1, w1, d1, u1⟩ := k_Pc (I := I) (J := J) a2 a1 (by omega) (Z.le (by omega))
      have hk : hf_k g1 (34 + 17 * i) = (0, 3) := w1.1
      have k13 : hf_k g1 13 = (0, 0) := (y1.2 13 (Or.inl (by omega))).1.trans a4
      have k14 : hf_k g1 14 = (5, 12) := (y1.2 14 (Or.inl (by omega))).1.trans b1
      have hlt : (nI 12 ≤ nI i) = (12 ≤ i) := z_ii (by decide) (by omega)
      have hk1 : ¬ 12 ≤ i := by omega
      have hl : Lp g (hf_sr g1 14 i (some (34 + 17 * i))) (i + 1) := by
        have sm : ∀ lo hi, hi ≤ 34 + 17 * i → (14 < lo ∨ hi ≤ 14) → same p (hf_sr g1 14 i (some (34 + 17 * i))) lo hi := fun lo hi h1 h2 => st_same y1 (by omega) h2
        refine ⟨m1, q1, st_x a3 y1 (by omega) (by omega), k13, ?_, ?_, ?_, a8.cg (sm 15 34 (by omega) (by omega)) (by omega) (by omega), a9.cg (sm 32 34 (by omega) (by omega)) (by omega) (by omega), k14, ?_, ?_, ?_, ?_⟩
        · rw [sr_ne (by decide), (y1.2 13 (Or.inl (by omega))).2]; exact a5
        · rw [sr_ne (by decide), (y1.2 13 (Or.inl (by omega))).2]; exact a6
        · rw [sr_ne (by decide), (y1.2 13 (Or.inl (by omega))).2]; exact a7
        · intro x hx
          by_cases e : x = i
          · subst e; exact sr_same
          · show hf_u (hf_r g1) 14 i _ 14 x = _
            rw [ku_ix e, (y1.2 14 (Or.inl (by omega))).2]
            exact b2 x (by omega)
        · intro x hx
          by_cases e : x = i
          · subst e
            exact w1.cg (lo := 34 + 17 * x) (hi := 34 + 17 * x + 17) (fun a ha hb => ⟨rfl, sr_ne (by omega)⟩) (by omega) (by omega)
          · exact (b3 x (by omega)).cg (sm (34 + 17 * x) (34 + 17 * i) (by omega) (by omega)) (by omega) (by omega)
        · show hf_c g1 = _
          rw [d1, b4]; omega
        · show hf_s g1 = _
          rw [u1, b5]; omega
      obtain ⟨g2, z1, z2⟩ := ih (i + 1) _ (by omega) hl
      refine ⟨g2, ?_, z2⟩
      have hA1 : 34 + 17 * i < 1000000 := by omega
      have hA2 : 13 ≤ 34 + 17 * i := by omega
      generalize 34 + 17 * i = A at *
      simp only [s0_39, s0_40, s0_41, s0_44, s0_45, s0_48, s0_49, s0_52, s0_53, s0_56, s0_57, s0_60, s0_61, hf_bd_v, hf_bd_n, hf_iv_i, hf_iv_l, hf_iv_a, hf_iv_n, hf_iv_2, z_lgl, z_lgg, z_lge, z_lgle, z_lgz, Option.getD_some, Option.isSome_some, ↓reduceIte, not_true_eq_false, not_false_eq_true, Option.toList_some, Option.toList_none, List.cons_append, List.nil_append, Nat.reduceAdd, Nat.add_assoc, ku_ne, ku_same, ne_eq, Nat.reduceEqDiff, reduceCtorEq, Nat.add_eq_left, Nat.left_eq_add, Nat.reduceEqDiff, q10, q_ne, true_or, or_true, a4, a5, b1, Nat.reduceLeDiff, and_self, Nat.reduceLT, hlt, hk1, a2, a1, hA1, Z.wI hA2 hA1, Z.wJ hA2 hA1, r1, k14, z_in (show i < 2147483648 by omega), z_cl (show i < 2147483648 by omega), show i < 12 by omega, decide_true, hk, z_1]
      rw [s0_64]
      exact z1
  obtain ⟨p0, hp0⟩ : ∃ p, p = hf_mk g (0, 0) 7 := ⟨_, rfl⟩
  have n0 : hf_n p0 = 14 := by rw [hp0]; exact congrArg (· + 1) hn
  have e0 : hf_e p0 = true := by rw [hp0]; exact he
  have k0 : hf_k p0 13 = (0, 0) := by rw [hp0, ← hn]; exact mk_k
  have x0 : Ex g p0 := by rw [hp0]; exact ex_mk (by omega)
  have c0 : hf_c p0 = hf_c g + 1 := by rw [hp0]; rfl
  have s0 : hf_s p0 = hf_s g + 7 := by rw [hp0]; rfl
  rw [← hp0]
  -- the row of pictures
  obtain ⟨g1, hg1⟩ : ∃ p, p = hf_mk p0 (5, 12) 12 := ⟨_, rfl⟩
  have y1 : Ex p0 g1 := by rw [hg1]; exact ex_mk (by omega)
  have kk1 : hf_k g1 13 = (0, 0) := (y1.2 _ (Or.inl (by omega))).1.trans k0
  obtain ⟨p1, hp1⟩ : ∃ p, p = hf_sr g1 13 0 (some 14) := ⟨_, rfl⟩
  have n1 : hf_n p1 = 15 := by rw [hp1]; show hf_n g1 = 15; rw [hg1]; exact congrArg (· + 1) n0
  have e1 : hf_e p1 = true := by rw [hp1]; show hf_e g1 = true; rw [hg1]; exact e0
  have k1 : hf_k p1 13 = (0, 0) := by rw [hp1]; exact kk1
  have x1 : Ex g p1 := by rw [hp1]; exact st_x x0 y1 (by omega) (by omega)
  have c1 : hf_c p1 = hf_c g + 2 := by rw [hp1]; show hf_c g1 = _; rw [hg1]; show hf_c p0 + 1 = _; omega
  have s1 : hf_s p1 = hf_s g + 19 := by rw [hp1]; show hf_s g1 = _; rw [hg1]; show hf_s p0 + 12 = _; omega
  have f1 : hf_r p1 13 0 = some 14 := by rw [hp1]; exact sr_same
  have a1 : hf_k p1 14 = (5, 12) := by rw [hp1]; show hf_k g1 14 = _; rw [hg1, ← n0]; exact mk_k
  -- nothing
  obtain ⟨g2, r2, y2, m2, q2, w2, d2, u2⟩ := k_Pc (I := I) (J := J) e1 n1 (by omega) (Z.le (by omega))
  have kk2 : hf_k g2 13 = (0, 0) := (y2.2 _ (Or.inl (by omega))).1.trans k1
  obtain ⟨p2, hp2⟩ : ∃ p, p = hf_sr g2 13 1 (some 15) := ⟨_, rfl⟩
  have n2 : hf_n p2 = 32 := by rw [hp2]; exact m2
  have e2 : hf_e p2 = true := by rw [hp2]; exact q2
  have k2 : hf_k p2 13 = (0, 0) := by rw [hp2]; exact kk2
  have x2 : Ex g p2 := by rw [hp2]; exact st_x x1 y2 (by omega) (by omega)
  have c2 : hf_c p2 = hf_c p1 + 17 := by rw [hp2]; exact d2
  have s2 : hf_s p2 = hf_s p1 + 661 := by rw [hp2]; exact u2
  have f2 : hf_r p2 13 0 = some 14 := by rw [hp2]; exact st_r y2 (by omega) (by decide) f1
  have f21 : hf_r p2 13 1 = some 15 := by rw [hp2]; exact sr_same
  have a2 : hf_k p2 14 = (5, 12) := by rw [hp2]; exact (y2.2 14 (Or.inl (by omega))).1.trans a1
  have v2 : Pc p2 15 := by rw [hp2]; exact w2.cg (lo := 15) (hi := 32) (fun a ha hb => ⟨rfl, sr_ne (by omega)⟩) (by omega) (by omega)
  -- reached
  obtain ⟨g3, r3, y3, m3, q3, w3, d3, u3⟩ := k_row (I := I) (J := J) (x := 12) (len := 12) e2 n2 (by omega) (by omega) rfl (Z.le (by omega))
  have kk3 : hf_k g3 13 = (0, 0) := (y3.2 _ (Or.inl (by omega))).1.trans k2
  obtain ⟨p3, hp3⟩ : ∃ p, p = hf_sr g3 13 2 (some 32) := ⟨_, rfl⟩
  have hl : Lp g p3 0 := by
    rw [hp3]
    refine ⟨m3, q3, st_x x2 y3 (by omega) (by omega), kk3, st_r y3 (by omega) (by decide) f2, st_r y3 (by omega) (by decide) f21, sr_same, v2.cg (st_same (lo := 15) (hi := 32) y3 (by omega) (by omega)) (by omega) (by omega), w3.sr (by omega), (y3.2 14 (Or.inl (by omega))).1.trans a2, fun x hx => absurd hx (by omega), fun x hx => absurd hx (by omega), ?_, ?_⟩
    · show hf_c g3 = _
      omega
    · show hf_s g3 = _
      omega
  obtain ⟨g4, z1, z2⟩ := loop 12 0 p3 rfl hl
  obtain ⟨a1, a2, a3, a4, a5, a6, a7, a8, a9, b1, b2, b3, b4, b5⟩ := z2
  refine ⟨g4, ?_, a3, a1, a2, ⟨a4, a5, a6, a7, a8, a9, b1, b2, b3⟩, by omega, by omega⟩
  simp only [s0_0, s0_1, s0_4, s0_5, s0_7, s0_10, s0_13, s0_14, s0_17, s0_18, s0_21, s0_24, s0_25, s0_28, s0_29, s0_31, s0_34, s0_37, s0_38, hf_bd_v, hf_bd_n, hf_iv_i, hf_iv_l, hf_iv_a, hf_iv_n, hf_iv_2, z_lgl, z_lgg, z_lge, z_lgle, z_lgz, Option.getD_some, Option.isSome_some, ↓reduceIte, not_true_eq_false, not_false_eq_true, Option.toList_some, Option.toList_none, List.cons_append, List.nil_append, Nat.reduceAdd, Nat.add_assoc, ku_ne, ku_same, ne_eq, Nat.reduceEqDiff, reduceCtorEq, Nat.add_eq_left, Nat.left_eq_add, Nat.reduceEqDiff, q10, q_ne, true_or, or_true, n0, e0, show (14 : Nat) < 1000000 by omega, Z.wI (show 13 ≤ 14 by omega) (by omega), Z.wJ (show 13 ≤ 14 by omega) (by omega), show ((12 : Int32) < 0) = False from eq_false (by decide), show (12 : Int32).toNatClampNeg = 12 from by decide, Nat.reduceLeDiff, ← hg1, kk1, ← hp1, n1, e1, show (15 : Nat) < 1000000 by omega, Z.wI (show 13 ≤ 15 by omega) (by omega), Z.wJ (show 13 ≤ 15 by omega) (by omega), r2, kk2, ← hp2, n2, e2, show (32 : Nat) < 1000000 by omega, Z.wI (show 13 ≤ 32 by omega) (by omega), Z.wJ (show 13 ≤ 32 by omega) (by omega), r3, kk3, ← hp3]
  exact z1
def hxJ (J : hf_J) : hf_J := hf_u (hf_u (hf_u (hf_u (hf_u (hf_u (hf_u (hf_u (hf_u (hf_u (loJ J 4) 238 0 0) 238 1 100) 0 7 200) 13 4 0) 13 5 0) 13 6 0) 257 7 0) 257 8 0) 257 9 1000) 257 11 0
def hxI (I : hf_I) : hf_I := hf_u (hf_u (loI I 4) 0 8 2) 257 10 0
theorem gw_00 {Ga : Nat → Nat → Int64} : gw J 0 Ga = J := by
  funext a
  rw [gw, if_neg (by omega)]
theorem k_Hx (he : hf_e g = true) (hn : hf_n g = 0) (Z : Zr I J 0) : ∃ g2, hf_rn 108 0 [some (.ref 0)] [] (hf_mk g (0, 9) 9) I J = some (.inl none, g2, hxI I, hxJ J) ∧ Ex g g2 ∧ hf_n g2 = 270 ∧ hf_e g2 = true ∧ (Hx g2 ∧ Al g2 ∧ Pu g2 ∧ Jo g2 ∧ Un g2 ∧ Sk g2) ∧ hf_c g2 = hf_c g + 270 ∧ hf_s g2 = hf_s g + 13982 := by
  obtain ⟨p0, hp0⟩ : ∃ p, p = hf_mk g (0, 9) 9 := ⟨_, rfl⟩
  have n0 : hf_n p0 = 1 := by rw [hp0]; exact congrArg (· + 1) hn
  have e0 : hf_e p0 = true := by rw [hp0]; exact he
  have k0 : hf_k p0 0 = (0, 9) := by rw [hp0, ← hn]; exact mk_k
  have x0 : Ex g p0 := by rw [hp0]; exact ex_mk (by omega)
  have c0 : hf_c p0 = hf_c g + 1 := by rw [hp0]; rfl
  have s0 : hf_s p0 = hf_s g + 9 := by rw [hp0]; rfl
  rw [← hp0]
  obtain ⟨g1, r1, y1, m1, q1, w1, d1, u1⟩ := k_Sc (I := I) (J := J) e0 n0 (by omega) (Z.le (by omega))
  have kk1 : hf_k g1 0 = (0, 9) := (y1.2 _ (Or.inl (by omega))).1.trans k0
  obtain ⟨p1, hp1⟩ : ∃ p, p = hf_sr g1 0 0 (some 1) := ⟨_, rfl⟩
  have n1 : hf_n p1 = 13 := by rw [hp1]; exact m1
  have e1 : hf_e p1 = true := by rw [hp1]; exact q1
  have k1 : hf_k p1 0 = (0, 9) := by rw [hp1]; exact kk1
  have x1 : Ex g p1 := by rw [hp1]; exact st_x x0 y1 (by omega) (by omega)
  have c1 : hf_c p1 = hf_c p0 + 12 := by rw [hp1]; exact d1
  have s1 : hf_s p1 = hf_s p0 + 336 := by rw [hp1]; exact u1
  have f1_1 : hf_r p1 0 0 = some 1 := by rw [hp1]; exact sr_same
  have v1_1 : Sc p1 1 := by rw [hp1]; exact w1.cg (lo := 1) (hi := 13) (fun a ha hb => ⟨rfl, sr_ne (by omega)⟩) (by omega) (by omega)
  obtain ⟨g2, r2, y2, m2, q2, w2, d2, u2⟩ := k_Al (I := I) (J := J) e1 n1 (Z.le (by omega))
  have kk2 : hf_k g2 0 = (0, 9) := (y2.2 _ (Or.inl (by omega))).1.trans k1
  obtain ⟨p2, hp2⟩ : ∃ p, p = hf_sr g2 0 1 (some 13) := ⟨_, rfl⟩
  have n2 : hf_n p2 = 238 := by rw [hp2]; exact m2
  have e2 : hf_e p2 = true := by rw [hp2]; exact q2
  have k2 : hf_k p2 0 = (0, 9) := by rw [hp2]; exact kk2
  have x2 : Ex g p2 := by rw [hp2]; exact st_x x1 y2 (by omega) (by omega)
  have c2 : hf_c p2 = hf_c p1 + 225 := by rw [hp2]; exact d2
  have s2 : hf_s p2 = hf_s p1 + 8625 := by rw [hp2]; exact u2
  have f2_2 : hf_r p2 0 1 = some 13 := by rw [hp2]; exact sr_same
  have v2_2 : Al p2  := by rw [hp2]; exact w2.cg (lo := 13) (hi := 238) (fun a ha hb => ⟨rfl, sr_ne (by omega)⟩) (by omega) (by omega)
  have f2_1 : hf_r p2 0 0 = some 1 := by rw [hp2]; exact st_r y2 (by omega) (by decide) f1_1
  have v2_1 : Sc p2 1 := by rw [hp2]; exact v1_1.cg (st_same (lo := 1) (hi := 13) y2 (by omega) (by omega)) (by omega) (by omega)
  obtain ⟨g3, r3, y3, m3, q3, w3, d3, u3⟩ := k_Pu (I := I) (J := J) e2 n2 (Z.le (by omega))
  have kk3 : hf_k g3 0 = (0, 9) := (y3.2 _ (Or.inl (by omega))).1.trans k2
  obtain ⟨p3, hp3⟩ : ∃ p, p = hf_sr g3 0 2 (some 238) := ⟨_, rfl⟩
  have n3 : hf_n p3 = 249 := by rw [hp3]; exact m3
  have e3 : hf_e p3 = true := by rw [hp3]; exact q3
  have k3 : hf_k p3 0 = (0, 9) := by rw [hp3]; exact kk3
  have x3 : Ex g p3 := by rw [hp3]; exact st_x x2 y3 (by omega) (by omega)
  have c3 : hf_c p3 = hf_c p2 + 11 := by rw [hp3]; exact d3
  have s3 : hf_s p3 = hf_s p2 + 188 := by rw [hp3]; exact u3
  have f3_3 : hf_r p3 0 2 = some 238 := by rw [hp3]; exact sr_same
  have v3_3 : Pu p3  := by rw [hp3]; exact w3.cg (lo := 238) (hi := 249) (fun a ha hb => ⟨rfl, sr_ne (by omega)⟩) (by omega) (by omega)
  have f3_1 : hf_r p3 0 0 = some 1 := by rw [hp3]; exact st_r y3 (by omega) (by decide) f2_1
  have v3_1 : Sc p3 1 := by rw [hp3]; exact v2_1.cg (st_same (lo := 1) (hi := 13) y3 (by omega) (by omega)) (by omega) (by omega)
  have f3_2 : hf_r p3 0 1 = some 13 := by rw [hp3]; exact st_r y3 (by omega) (by decide) f2_2
  have v3_2 : Al p3  := by rw [hp3]; exact v2_2.cg (st_same (lo := 13) (hi := 238) y3 (by omega) (by omega)) (by omega) (by omega)
  obtain ⟨g4, r4, y4, m4, q4, w4, d4, u4⟩ := k_Jo (I := I) (J := J) e3 n3 (Z.le (by omega))
  have kk4 : hf_k g4 0 = (0, 9) := (y4.2 _ (Or.inl (by omega))).1.trans k3
  obtain ⟨p4, hp4⟩ : ∃ p, p = hf_sr g4 0 3 (some 249) := ⟨_, rfl⟩
  have n4 : hf_n p4 = 254 := by rw [hp4]; exact m4
  have e4 : hf_e p4 = true := by rw [hp4]; exact q4
  have k4 : hf_k p4 0 = (0, 9) := by rw [hp4]; exact kk4
  have x4 : Ex g p4 := by rw [hp4]; exact st_x x3 y4 (by omega) (by omega)
  have c4 : hf_c p4 = hf_c p3 + 5 := by rw [hp4]; exact d4
  have s4 : hf_s p4 = hf_s p3 + 132 := by rw [hp4]; exact u4
  have f4_4 : hf_r p4 0 3 = some 249 := by rw [hp4]; exact sr_same
  have v4_4 : Jo p4  := by rw [hp4]; exact w4.cg (lo := 249) (hi := 254) (fun a ha hb => ⟨rfl, sr_ne (by omega)⟩) (by omega) (by omega)
  have f4_1 : hf_r p4 0 0 = some 1 := by rw [hp4]; exact st_r y4 (by omega) (by decide) f3_1
  have v4_1 : Sc p4 1 := by rw [hp4]; exact v3_1.cg (st_same (lo := 1) (hi := 13) y4 (by omega) (by omega)) (by omega) (by omega)
  have f4_2 : hf_r p4 0 1 = some 13 := by rw [hp4]; exact st_r y4 (by omega) (by decide) f3_2
  have v4_2 : Al p4  := by rw [hp4]; exact v3_2.cg (st_same (lo := 13) (hi := 238) y4 (by omega) (by omega)) (by omega) (by omega)
  have f4_3 : hf_r p4 0 2 = some 238 := by rw [hp4]; exact st_r y4 (by omega) (by decide) f3_3
  have v4_3 : Pu p4  := by rw [hp4]; exact v3_3.cg (st_same (lo := 238) (hi := 249) y4 (by omega) (by omega)) (by omega) (by omega)
  obtain ⟨g5, r5, y5, m5, q5, w5, d5, u5⟩ := k_Un (I := I) (J := J) e4 n4 (Z.le (by omega))
  have kk5 : hf_k g5 0 = (0, 9) := (y5.2 _ (Or.inl (by omega))).1.trans k4
  obtain ⟨p5, hp5⟩ : ∃ p, p = hf_sr g5 0 4 (some 254) := ⟨_, rfl⟩
  have n5 : hf_n p5 = 257 := by rw [hp5]; exact m5
  have e5 : hf_e p5 = true := by rw [hp5]; exact q5
  have k5 : hf_k p5 0 = (0, 9) := by rw [hp5]; exact kk5
  have x5 : Ex g p5 := by rw [hp5]; exact st_x x4 y5 (by omega) (by omega)
  have c5 : hf_c p5 = hf_c p4 + 3 := by rw [hp5]; exact d5
  have s5 : hf_s p5 = hf_s p4 + 66 := by rw [hp5]; exact u5
  have f5_5 : hf_r p5 0 4 = some 254 := by rw [hp5]; exact sr_same
  have v5_5 : Un p5  := by rw [hp5]; exact w5.cg (lo := 254) (hi := 257) (fun a ha hb => ⟨rfl, sr_ne (by omega)⟩) (by omega) (by omega)
  have f5_1 : hf_r p5 0 0 = some 1 := by rw [hp5]; exact st_r y5 (by omega) (by decide) f4_1
  have v5_1 : Sc p5 1 := by rw [hp5]; exact v4_1.cg (st_same (lo := 1) (hi := 13) y5 (by omega) (by omega)) (by omega) (by omega)
  have f5_2 : hf_r p5 0 1 = some 13 := by rw [hp5]; exact st_r y5 (by omega) (by decide) f4_2
  have v5_2 : Al p5  := by rw [hp5]; exact v4_2.cg (st_same (lo := 13) (hi := 238) y5 (by omega) (by omega)) (by omega) (by omega)
  have f5_3 : hf_r p5 0 2 = some 238 := by rw [hp5]; exact st_r y5 (by omega) (by decide) f4_3
  have v5_3 : Pu p5  := by rw [hp5]; exact v4_3.cg (st_same (lo := 238) (hi := 249) y5 (by omega) (by omega)) (by omega) (by omega)
  have f5_4 : hf_r p5 0 3 = some 249 := by rw [hp5]; exact st_r y5 (by omega) (by decide) f4_4
  have v5_4 : Jo p5  := by rw [hp5]; exact v4_4.cg (st_same (lo := 249) (hi := 254) y5 (by omega) (by omega)) (by omega) (by omega)
  obtain ⟨g6, r6, y6, m6, q6, w6, d6, u6⟩ := k_Sk (I := I) (J := J) e5 n5 (Z.le (by omega))
  have kk6 : hf_k g6 0 = (0, 9) := (y6.2 _ (Or.inl (by omega))).1.trans k5
  obtain ⟨p6, hp6⟩ : ∃ p, p = hf_sr g6 0 5 (some 257) := ⟨_, rfl⟩
  have n6 : hf_n p6 = 270 := by rw [hp6]; exact m6
  have e6 : hf_e p6 = true := by rw [hp6]; exact q6
  have k6 : hf_k p6 0 = (0, 9) := by rw [hp6]; exact kk6
  have x6 : Ex g p6 := by rw [hp6]; exact st_x x5 y6 (by omega) (by omega)
  have c6 : hf_c p6 = hf_c p5 + 13 := by rw [hp6]; exact d6
  have s6 : hf_s p6 = hf_s p5 + 4626 := by rw [hp6]; exact u6
  have f6_6 : hf_r p6 0 5 = some 257 := by rw [hp6]; exact sr_same
  have v6_6 : Sk p6  := by rw [hp6]; exact w6.cg (lo := 257) (hi := 270) (fun a ha hb => ⟨rfl, sr_ne (by omega)⟩) (by omega) (by omega)
  have f6_1 : hf_r p6 0 0 = some 1 := by rw [hp6]; exact st_r y6 (by omega) (by decide) f5_1
  have v6_1 : Sc p6 1 := by rw [hp6]; exact v5_1.cg (st_same (lo := 1) (hi := 13) y6 (by omega) (by omega)) (by omega) (by omega)
  have f6_2 : hf_r p6 0 1 = some 13 := by rw [hp6]; exact st_r y6 (by omega) (by decide) f5_2
  have v6_2 : Al p6  := by rw [hp6]; exact v5_2.cg (st_same (lo := 13) (hi := 238) y6 (by omega) (by omega)) (by omega) (by omega)
  have f6_3 : hf_r p6 0 2 = some 238 := by rw [hp6]; exact st_r y6 (by omega) (by decide) f5_3
  have v6_3 : Pu p6  := by rw [hp6]; exact v5_3.cg (st_same (lo := 238) (hi := 249) y6 (by omega) (by omega)) (by omega) (by omega)
  have f6_4 : hf_r p6 0 3 = some 249 := by rw [hp6]; exact st_r y6 (by omega) (by decide) f5_4
  have v6_4 : Jo p6  := by rw [hp6]; exact v5_4.cg (st_same (lo := 249) (hi := 254) y6 (by omega) (by omega)) (by omega) (by omega)
  have f6_5 : hf_r p6 0 4 = some 254 := by rw [hp6]; exact st_r y6 (by omega) (by decide) f5_5
  have v6_5 : Un p6  := by rw [hp6]; exact v5_5.cg (st_same (lo := 254) (hi := 257) y6 (by omega) (by omega)) (by omega) (by omega)
  have hHx : Hx p6 := ⟨k6, f6_1, f6_2, f6_3, f6_4, f6_5, f6_6, v6_1⟩
  refine ⟨p6, ?_, x6, n6, e6, ⟨hHx, v6_2, v6_3, v6_4, v6_5, v6_6⟩, by omega, by omega⟩
  have hbg := c_begin (I := I) (J := J) (s := 4) hHx v6_2 (by decide)
  rw [show nI 4 = 4 from rfl] at hbg
  have hz : ∀ a, a < 1000000 → I a = fun _ => 0 := fun a ha => (Z a (by omega) ha).1
  have hAlb : Alb p6 (hf_u (loI I 4) 0 8 2) (hf_u (hf_u (hf_u (loJ J 4) 238 0 0) 238 1 100) 0 7 200) 0 (fun _ => 0) (fun _ _ => 0) (fun _ _ => none) := by
    refine ⟨v6_2, by omega, ?_, ?_, fun i hi => absurd hi (by omega), fun i hi => absurd hi (by omega), fun i k hi => absurd hi (by omega), fun i k j h hi => absurd hi (by omega)⟩
    · rw [ku_ne (by decide), loI, ku_same]; rfl
    · rw [ku_ne (by decide), loI, ku_ne (by decide), ku_ne (by decide), ku_ne (by decide), ku_ne (by decide), hz 16 (by omega)]; rfl
  have hrc := c_recipes (co := 0) (fo := 0) (wi := 0) hAlb
  rw [gw_00, show (0 : Int32).toInt64 = 0 from by decide] at hrc
  simp only [s108_0, s108_1, s108_4, s108_5, s108_8, s108_9, s108_12, s108_15, s108_16, s108_19, s108_20, s108_23, s108_26, s108_27, s108_30, s108_31, s108_34, s108_37, s108_38, s108_41, s108_42, s108_45, s108_48, s108_49, s108_52, s108_53, s108_56, s108_59, s108_60, s108_63, s108_64, s108_67, s108_70, s108_71, s108_72, s108_75, s108_76, s108_79, s108_80, s108_82, s108_85, s108_86, s108_89, s108_92, s108_93, s108_94, s108_97, s108_98, s108_101, s108_102, s108_103, s108_104, s108_107, s108_108, s108_111, s108_112, s108_113, s108_116, s108_119, s108_120, s108_123, s108_124, s108_125, s108_128, hf_bd_v, hf_bd_n, hf_iv_i, hf_iv_l, hf_iv_a, hf_iv_n, hf_iv_2, z_lgl, z_lgg, z_lge, z_lgle, z_lgz, Option.getD_some, Option.isSome_some, ↓reduceIte, not_true_eq_false, not_false_eq_true, Option.toList_some, Option.toList_none, List.cons_append, List.nil_append, Nat.reduceAdd, Nat.add_assoc, ku_ne, ku_same, ne_eq, Nat.reduceEqDiff, reduceCtorEq, Nat.add_eq_left, Nat.left_eq_add, Nat.reduceEqDiff, q10, q_ne, true_or, or_true, n0, e0, show (1 : Nat) < 1000000 by omega, Z.wI (show 0 ≤ 1 by omega) (by omega), Z.wJ (show 0 ≤ 1 by omega) (by omega), r1, kk1, ← hp1, n1, e1, show (13 : Nat) < 1000000 by omega, Z.wI (show 0 ≤ 13 by omega) (by omega), Z.wJ (show 0 ≤ 13 by omega) (by omega), r2, kk2, ← hp2, n2, e2, show (238 : Nat) < 1000000 by omega, Z.wI (show 0 ≤ 238 by omega) (by omega), Z.wJ (show 0 ≤ 238 by omega) (by omega), r3, kk3, ← hp3, n3, e3, show (249 : Nat) < 1000000 by omega, Z.wI (show 0 ≤ 249 by omega) (by omega), Z.wJ (show 0 ≤ 249 by omega) (by omega), r4, kk4, ← hp4, n4, e4, show (254 : Nat) < 1000000 by omega, Z.wI (show 0 ≤ 254 by omega) (by omega), Z.wJ (show 0 ≤ 254 by omega) (by omega), r5, kk5, ← hp5, n5, e5, show (257 : Nat) < 1000000 by omega, Z.wI (show 0 ≤ 257 by omega) (by omega), Z.wJ (show 0 ≤ 257 by omega) (by omega), r6, kk6, ← hp6, hbg, hx_k hHx, hx_r0 hHx, hx_r1 hHx, hx_r2 hHx, hx_r3 hHx, hx_r4 hHx, hx_r5 hHx, pu_k v6_3, pu_r2 v6_3, pu_r3 v6_3, pu_r4 v6_3, pu_r5 v6_3, pu_r6 v6_3, sk_k v6_6, sk_r0 v6_6, sk_r1 v6_6, sk_r2 v6_6, sk_r3 v6_6, sk_r4 v6_6, sk_r5 v6_6, v6_2.1, c_putell v6_3, hrc, c_observer v6_6, c_survey v6_6, show (0 : Int32).toInt64 = 0 from by decide, show (100 : Int32).toInt64 = 100 from by decide, show (1000 : Int32).toInt64 = 1000 from by decide, hxI, hxJ]
end
