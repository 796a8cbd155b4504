/-! CONSTRUCTORS -/
/-- all that is not made yet is zero -/
def Zr (I : hf_I) (J : hf_J) (n : Nat) : Prop := ∀ a, n ≤ a → a < 1000000 → I a = (fun _ => 0) ∧ J a = (fun _ => 0)
/-- what lay there lies there still -/
def Ex (g g2 : hf_G) : Prop := hf_n g ≤ hf_n g2 ∧ ∀ a, a < hf_n g ∨ 1000000 ≤ a → hf_k g2 a = hf_k g a ∧ hf_r g2 a = hf_r g a
section
variable {g g1 g2 p : hf_G} {I : hf_I} {J : hf_J} {a b n m f f2 len : Nat} {v w : Option Nat} {kd : Nat × Nat} {x : Int32}
theorem Zr.le (h : Zr I J n) (hm : n ≤ m) : Zr I J m := fun a h1 h2 => h a (by omega) h2
theorem Zr.wI (h : Zr I J n) (h1 : n ≤ a) (h2 : a < 1000000) : hf_w I a (fun _ => 0) = I := kw_id (h a h1 h2).1.symm
theorem Zr.wJ (h : Zr I J n) (h1 : n ≤ a) (h2 : a < 1000000) : hf_w J a (fun _ => 0) = J := kw_id (h a h1 h2).2.symm
theorem Ex.t (h : Ex g g1) (h2 : Ex g1 g2) : Ex g g2 := ⟨Nat.le_trans h.1 h2.1, fun a ha => by
  have h3 := h2.2 a (by have := h.1; omega)
  have h4 := h.2 a ha
  exact ⟨h3.1.trans h4.1, h3.2.trans h4.2⟩⟩
theorem Ex.r : Ex g g := ⟨Nat.le_refl _, fun a _ => ⟨rfl, rfl⟩⟩
theorem mk_k : hf_k (hf_mk g kd m) (hf_n g) = kd := if_pos rfl
theorem ex_mk (h : hf_n g < 1000000) : Ex g (hf_mk g kd m) := ⟨Nat.le_succ _, fun a ha => by
  have hne : a ≠ hf_n g := by omega
  exact ⟨if_neg hne, kw_ne hne⟩⟩
theorem ex_sr (h : Ex g g1) (h1 : hf_n g ≤ a) (h2 : a < 1000000) : Ex g (hf_sr g1 a f v) := ⟨h.1, fun b hb => by
  have hne : b ≠ a := by omega
  exact ⟨(h.2 b hb).1, by show hf_u (hf_r g1) a f v b = _; rw [ku_ne hne]; exact (h.2 b hb).2⟩⟩
theorem st_x (h0 : Ex g p) (h : Ex p g1) (h1 : hf_n g ≤ a) (h2 : a < 1000000) : Ex g (hf_sr g1 a f v) := ex_sr (h0.t h) h1 h2
theorem sr_same : hf_r (hf_sr g a f v) a f = v := ku_same
theorem sr_ne (h : b ≠ a) : hf_r (hf_sr g a f v) b = hf_r g b := ku_ne h
theorem st_k (h : Ex p g1) (ha : n < hf_n p) (hk : hf_k p n = kd) : hf_k (hf_sr g1 a f v) n = kd := (h.2 n (Or.inl ha)).1.trans hk
theorem st_r (h : Ex p g1) (ha : n < hf_n p) (hf : f2 ≠ f) (hr : hf_r p n f2 = w) : hf_r (hf_sr g1 n f v) n f2 = w := by
  show hf_u (hf_r g1) n f v n f2 = w
  rw [ku_ix hf, (h.2 n (Or.inl ha)).2, hr]
theorem Rw.ex (h : Rw g a len) (x : Ex g g1) (ha : a + 1 < hf_n g) : Rw g1 a len := by
  obtain ⟨h1, h2, h3, h4⟩ := h
  have x1 := x.2 a (Or.inl (by omega))
  have x2 := x.2 (a + 1) (Or.inl ha)
  exact ⟨x1.1.trans h1, by rw [x1.2]; exact h2, x2.1.trans h3, h4⟩
theorem Rw.sr (h : Rw g a len) (hn : a ≠ n) : Rw (hf_sr g n f v) a len := by
  obtain ⟨h1, h2, h3, h4⟩ := h
  exact ⟨h1, by rw [sr_ne hn]; exact h2, h3, h4⟩
theorem st_w (x : Ex p g1) (ha : a + 1 < hf_n p) (hne : a ≠ n) (h : Rw p a len) : Rw (hf_sr g1 n f v) a len := (h.ex x ha).sr hne
theorem Gr.st (x : Ex p g1) (ha : a + 8 < hf_n p) (hne : n < a ∨ a + 8 < n) (h : Gr p a) : Gr (hf_sr g1 n f v) a := by
  obtain ⟨h1, h2, h3, h4, h5, h6, h7, h8, h9⟩ := h
  have x1 := x.2 a (Or.inl (by omega))
  have hn : a ≠ n := by omega
  exact ⟨x1.1.trans h1, by rw [sr_ne hn, x1.2]; exact h2, by rw [sr_ne hn, x1.2]; exact h3, by rw [sr_ne hn, x1.2]; exact h4, by rw [sr_ne hn, x1.2]; exact h5, st_w x (by omega) (by omega) h6, st_w x (by omega) (by omega) h7, st_w x (by omega) (by omega) h8, st_w x (by omega) (by omega) h9⟩
theorem Sc.st (x : Ex p g1) (ha : a + 11 < hf_n p) (hne : n < a ∨ a + 11 < n) (h : Sc p a) : Sc (hf_sr g1 n f v) a := by
  obtain ⟨h1, h2, h3, h4, h5⟩ := h
  have x1 := x.2 a (Or.inl (by omega))
  have hn : a ≠ n := by omega
  exact ⟨x1.1.trans h1, by rw [sr_ne hn, x1.2]; exact h2, by rw [sr_ne hn, x1.2]; exact h3, h4.st x (by omega) (by omega), st_w x (by omega) (by omega) h5⟩
theorem Pc.st (x : Ex p g1) (ha : a + 16 < hf_n p) (hne : n < a ∨ a + 16 < n) (h : Pc p a) : Pc (hf_sr g1 n f v) a := by
  obtain ⟨h1, h2, h3, h4, h5, h6, h7⟩ := h
  have x1 := x.2 a (Or.inl (by omega))
  have hn : a ≠ n := by omega
  exact ⟨x1.1.trans h1, by rw [sr_ne hn, x1.2]; exact h2, by rw [sr_ne hn, x1.2]; exact h3, by rw [sr_ne hn, x1.2]; exact h4, h5.st x (by omega) (by omega), st_w x (by omega) (by omega) h6, st_w x (by omega) (by omega) h7⟩
theorem sr_self (h : hf_r g a f = v) : hf_sr g a f v = g := by
  obtain ⟨g1, g2, g3, g4, g5, g6⟩ := g
  unfold hf_sr
  have : hf_u (hf_r (g1, g2, g3, g4, g5, g6)) a f v = g4 := by
    funext y z
    unfold hf_u
    split
    · rename_i e; rw [e.1, e.2, ← h]; rfl
    · rfl
  rw [this]
  rfl
theorem k_row (he : hf_e g = true) (hn : hf_n g = n) (hn2 : n + 2 < 1000000) (hl : len ≤ 100000) (hx : x = nI len) (Z : Zr I J n) : ∃ g2, hf_rn 69 0 [some (.ref n), some (.int x)] [] (hf_mk g (0, 5) 1) I J = some (.inl none, g2, I, J) ∧ Ex g g2 ∧ hf_n g2 = n + 2 ∧ hf_e g2 = true ∧ Rw g2 n len ∧ hf_c g2 = hf_c g + 2 ∧ hf_s g2 = hf_s g + (1 + len) := by
  obtain ⟨p0, hp0⟩ : ∃ p, p = hf_mk g (0, 5) 1 := ⟨_, rfl⟩
  have n0 : hf_n p0 = n + 1 := by rw [hp0]; exact congrArg (· + 1) hn
  have e0 : hf_e p0 = true := by rw [hp0]; exact he
  have k0 : hf_k p0 n = (0, 5) := by rw [hp0, ← hn]; exact mk_k
  have x0 : Ex g p0 := by rw [hp0]; exact ex_mk (by omega)
  have c0 : hf_c p0 = hf_c g + 1 := by rw [hp0]; rfl
  have s0 : hf_s p0 = hf_s g + 1 := by rw [hp0]; rfl
  rw [← hp0, hx]
  obtain ⟨p1, hp1⟩ : ∃ p, p = hf_mk p0 (3, len) len := ⟨_, rfl⟩
  have x1 : Ex p0 p1 := by rw [hp1]; exact ex_mk (by omega)
  have k1 : hf_k p1 n = (0, 5) := (x1.2 n (Or.inl (by omega))).1.trans k0
  have hz : nI len ≤ 0 ↔ len = 0 := by rw [show (0 : Int32) = nI 0 from rfl, nI_leI (by omega) (by decide)]; omega
  have hmax : (if nI len ≤ 0 then (0 : Int32) else nI len) = nI len := by
    by_cases e : len = 0
    · subst e; rfl
    · rw [if_neg (by rw [hz]; exact e)]
  have hcl : (nI len).toNatClampNeg = len := nI_clamp (by omega)
  refine ⟨hf_sr p1 n 0 (some (n + 1)), ?_, st_x x0 x1 (by omega) (by omega), ?_, ?_, ⟨k1, sr_same, ?_, by omega⟩, ?_, ?_⟩
  · have hmx := @c_max p0 I J 0 (nI len)
    rw [hmax] at hmx
    simp only [s69_0, s69_1, s69_4, s69_5, s69_6, s69_7, s69_10, s69_12, s69_15, hf_bd_v, hf_bd_n, hf_iv_i, hf_iv_l, hf_iv_a, hf_iv_n, hf_iv_2, z_lgl, z_lgg, z_lge, z_lgle, z_lgz, Option.getD_some, Option.isSome_some, ↓reduceIte, not_true_eq_false, not_false_eq_true, Option.toList_some, Option.toList_none, List.cons_append, List.nil_append, Nat.reduceAdd, Nat.add_assoc, ku_ne, ku_same, ne_eq, Nat.reduceEqDiff, reduceCtorEq, Nat.add_eq_left, Nat.left_eq_add, Nat.reduceEqDiff, q10, q_ne, true_or, or_true, hmx, z_i0 (show len < 2147483648 by omega), hcl, hl, e0, n0, show n + 1 < 1000000 by omega, Z.wI (show n ≤ n + 1 by omega) (by omega), Z.wJ (show n ≤ n + 1 by omega) (by omega), k1, ← hp1]
  · show hf_n p1 = n + 2
    rw [hp1]
    exact congrArg (· + 1) n0
  · show hf_e p1 = true
    rw [hp1]
    exact e0
  · show hf_k p1 (n + 1) = (3, len)
    rw [hp1, ← n0]
    exact mk_k
  · show hf_c p1 = _
    rw [hp1]
    show hf_c p0 + 1 = _
    rw [c0]
  · show hf_s p1 = _
    rw [hp1]
    show hf_s p0 + len = _
    rw [s0]
    omega
end
section
variable {g g1 g2 p : hf_G} {I : hf_I} {J : hf_J} {a b n m f f2 len : Nat}
theorem k_Gr (he : hf_e g = true) (hn : hf_n g = n) (hn2 : n + 9 < 1000000) (Z : Zr I J n) : ∃ g2, hf_rn 16 0 [some (.ref n)] [] (hf_mk g (0, 1) 6) I J = some (.inl none, g2, I, J) ∧ Ex g g2 ∧ hf_n g2 = n + 9 ∧ hf_e g2 = true ∧ Gr g2 n ∧ hf_c g2 = hf_c g + 9 ∧ hf_s g2 = hf_s g + 266 := by
  obtain ⟨p0, hp0⟩ : ∃ p, p = hf_mk g (0, 1) 6 := ⟨_, rfl⟩
  have n0 : hf_n p0 = n + 1 := by rw [hp0]; exact congrArg (· + 1) hn
  have e0 : hf_e p0 = true := by rw [hp0]; exact he
  have k0 : hf_k p0 n = (0, 1) := by rw [hp0, ← hn]; exact mk_k
  have x0 : Ex g p0 := by rw [hp0]; exact ex_mk (by omega)
  have c0 : hf_c p0 = hf_c g + 1 := by rw [hp0]; rfl
  have s0 : hf_s p0 = hf_s g + 6 := by rw [hp0]; rfl
  rw [← hp0]
  obtain ⟨g1, r1, y1, m1, q1, w1, d1, u1⟩ := k_row (I := I) (J := J) (x := 64) (len := 64) e0 n0 (by omega) (by omega) rfl (Z.le (by omega))
  obtain ⟨p1, hp1⟩ : ∃ p, p = hf_sr g1 (n) 0 (some (n + 1)) := ⟨_, rfl⟩
  have n1 : hf_n p1 = n + 3 := by rw [hp1]; exact m1
  have e1 : hf_e p1 = true := by rw [hp1]; exact q1
  have k1 : hf_k p1 (n) = (0, 1) := by rw [hp1]; exact st_k y1 (by omega) k0
  have kk1 : hf_k g1 (n) = (0, 1) := (y1.2 _ (Or.inl (by omega))).1.trans k0
  have x1 : Ex g p1 := by rw [hp1]; exact st_x x0 y1 (by omega) (by omega)
  have c1 : hf_c p1 = hf_c p0 + 2 := by rw [hp1]; exact d1
  have s1 : hf_s p1 = hf_s p0 + 65 := by rw [hp1]; exact u1
  have f1_1 : hf_r p1 (n) 0 = some (n + 1) := by rw [hp1]; exact sr_same
  have v1_1 : Rw p1 (n + 1) 64 := by rw [hp1]; exact w1.sr (by omega)
  obtain ⟨g2, r2, y2, m2, q2, w2, d2, u2⟩ := k_row (I := I) (J := J) (x := 64) (len := 64) e1 n1 (by omega) (by omega) rfl (Z.le (by omega))
  obtain ⟨p2, hp2⟩ : ∃ p, p = hf_sr g2 (n) 1 (some (n + 3)) := ⟨_, rfl⟩
  have n2 : hf_n p2 = n + 5 := by rw [hp2]; exact m2
  have e2 : hf_e p2 = true := by rw [hp2]; exact q2
  have k2 : hf_k p2 (n) = (0, 1) := by rw [hp2]; exact st_k y2 (by omega) k1
  have kk2 : hf_k g2 (n) = (0, 1) := (y2.2 _ (Or.inl (by omega))).1.trans k1
  have x2 : Ex g p2 := by rw [hp2]; exact st_x x1 y2 (by omega) (by omega)
  have c2 : hf_c p2 = hf_c p1 + 2 := by rw [hp2]; exact d2
  have s2 : hf_s p2 = hf_s p1 + 65 := by rw [hp2]; exact u2
  have f2_2 : hf_r p2 (n) 1 = some (n + 3) := by rw [hp2]; exact sr_same
  have v2_2 : Rw p2 (n + 3) 64 := by rw [hp2]; exact w2.sr (by omega)
  have f2_1 : hf_r p2 (n) 0 = some (n + 1) := by rw [hp2]; exact st_r y2 (by omega) (by decide) f1_1
  have v2_1 : Rw p2 (n + 1) 64 := by rw [hp2]; exact st_w y2 (by omega) (by omega) v1_1
  obtain ⟨g3, r3, y3, m3, q3, w3, d3, u3⟩ := k_row (I := I) (J := J) (x := 64) (len := 64) e2 n2 (by omega) (by omega) rfl (Z.le (by omega))
  obtain ⟨p3, hp3⟩ : ∃ p, p = hf_sr g3 (n) 2 (some (n + 5)) := ⟨_, rfl⟩
  have n3 : hf_n p3 = n + 7 := by rw [hp3]; exact m3
  have e3 : hf_e p3 = true := by rw [hp3]; exact q3
  have k3 : hf_k p3 (n) = (0, 1) := by rw [hp3]; exact st_k y3 (by omega) k2
  have kk3 : hf_k g3 (n) = (0, 1) := (y3.2 _ (Or.inl (by omega))).1.trans k2
  have x3 : Ex g p3 := by rw [hp3]; exact st_x x2 y3 (by omega) (by omega)
  have c3 : hf_c p3 = hf_c p2 + 2 := by rw [hp3]; exact d3
  have s3 : hf_s p3 = hf_s p2 + 65 := by rw [hp3]; exact u3
  have f3_3 : hf_r p3 (n) 2 = some (n + 5) := by rw [hp3]; exact sr_same
  have v3_3 : Rw p3 (n + 5) 64 := by rw [hp3]; exact w3.sr (by omega)
  have f3_1 : hf_r p3 (n) 0 = some (n + 1) := by rw [hp3]; exact st_r y3 (by omega) (by decide) f2_1
  have v3_1 : Rw p3 (n + 1) 64 := by rw [hp3]; exact st_w y3 (by omega) (by omega) v2_1
  have f3_2 : hf_r p3 (n) 1 = some (n + 3) := by rw [hp3]; exact st_r y3 (by omega) (by decide) f2_2
  have v3_2 : Rw p3 (n + 3) 64 := by rw [hp3]; exact st_w y3 (by omega) (by omega) v2_2
  obtain ⟨g4, r4, y4, m4, q4, w4, d4, u4⟩ := k_row (I := I) (J := J) (x := 64) (len := 64) e3 n3 (by omega) (by omega) rfl (Z.le (by omega))
  obtain ⟨p4, hp4⟩ : ∃ p, p = hf_sr g4 (n) 3 (some (n + 7)) := ⟨_, rfl⟩
  have n4 : hf_n p4 = n + 9 := by rw [hp4]; exact m4
  have e4 : hf_e p4 = true := by rw [hp4]; exact q4
  have k4 : hf_k p4 (n) = (0, 1) := by rw [hp4]; exact st_k y4 (by omega) k3
  have kk4 : hf_k g4 (n) = (0, 1) := (y4.2 _ (Or.inl (by omega))).1.trans k3
  have x4 : Ex g p4 := by rw [hp4]; exact st_x x3 y4 (by omega) (by omega)
  have c4 : hf_c p4 = hf_c p3 + 2 := by rw [hp4]; exact d4
  have s4 : hf_s p4 = hf_s p3 + 65 := by rw [hp4]; exact u4
  have f4_4 : hf_r p4 (n) 3 = some (n + 7) := by rw [hp4]; exact sr_same
  have v4_4 : Rw p4 (n + 7) 64 := by rw [hp4]; exact w4.sr (by omega)
  have f4_1 : hf_r p4 (n) 0 = some (n + 1) := by rw [hp4]; exact st_r y4 (by omega) (by decide) f3_1
  have v4_1 : Rw p4 (n + 1) 64 := by rw [hp4]; exact st_w y4 (by omega) (by omega) v3_1
  have f4_2 : hf_r p4 (n) 1 = some (n + 3) := by rw [hp4]; exact st_r y4 (by omega) (by decide) f3_2
  have v4_2 : Rw p4 (n + 3) 64 := by rw [hp4]; exact st_w y4 (by omega) (by omega) v3_2
  have f4_3 : hf_r p4 (n) 2 = some (n + 5) := by rw [hp4]; exact st_r y4 (by omega) (by decide) f3_3
  have v4_3 : Rw p4 (n + 5) 64 := by rw [hp4]; exact st_w y4 (by omega) (by omega) v3_3
  refine ⟨p4, ?_, x4, n4, e4, ⟨k4, f4_1, f4_2, f4_3, f4_4, v4_1, v4_2, v4_3, v4_4⟩, by omega, by omega⟩
  simp only [s16_0, s16_1, s16_4, s16_5, s16_8, s16_9, s16_11, s16_14, s16_17, s16_18, s16_21, s16_22, s16_24, s16_27, s16_30, s16_31, s16_34, s16_35, s16_37, s16_40, s16_43, s16_44, s16_47, s16_48, s16_50, s16_53, s16_56, hf_bd_v, hf_bd_n, hf_iv_i, hf_iv_l, hf_iv_a, hf_iv_n, hf_iv_2, z_lgl, z_lgg, z_lge, z_lgle, z_lgz, Option.getD_some, Option.isSome_some, ↓reduceIte, not_true_eq_false, not_false_eq_true, Option.toList_some, Option.toList_none, List.cons_append, List.nil_append, Nat.reduceAdd, Nat.add_assoc, ku_ne, ku_same, ne_eq, Nat.reduceEqDiff, reduceCtorEq, Nat.add_eq_left, Nat.left_eq_add, Nat.reduceEqDiff, q10, q_ne, true_or, or_true, n0, e0, show n + 1 < 1000000 by omega, Z.wI (show n ≤ n + 1 by omega) (by omega), Z.wJ (show n ≤ n + 1 by omega) (by omega), r1, kk1, ← hp1, n1, e1, show n + 3 < 1000000 by omega, Z.wI (show n ≤ n + 3 by omega) (by omega), Z.wJ (show n ≤ n + 3 by omega) (by omega), r2, kk2, ← hp2, n2, e2, show n + 5 < 1000000 by omega, Z.wI (show n ≤ n + 5 by omega) (by omega), Z.wJ (show n ≤ n + 5 by omega) (by omega), r3, kk3, ← hp3, n3, e3, show n + 7 < 1000000 by omega, Z.wI (show n ≤ n + 7 by omega) (by omega), Z.wJ (show n ≤ n + 7 by omega) (by omega), r4, kk4, ← hp4]
theorem k_Sc (he : hf_e g = true) (hn : hf_n g = n) (hn2 : n + 12 < 1000000) (Z : Zr I J n) : ∃ g2, hf_rn 75 0 [some (.ref n)] [] (hf_mk g (0, 6) 5) I J = some (.inl none, g2, I, J) ∧ Ex g g2 ∧ hf_n g2 = n + 12 ∧ hf_e g2 = true ∧ Sc g2 n ∧ hf_c g2 = hf_c g + 12 ∧ hf_s g2 = hf_s g + 336 := by
  obtain ⟨p0, hp0⟩ : ∃ p, p = hf_mk g (0, 6) 5 := ⟨_, rfl⟩
  have n0 : hf_n p0 = n + 1 := by rw [hp0]; exact congrArg (· + 1) hn
  have e0 : hf_e p0 = true := by rw [hp0]; exact he
  have k0 : hf_k p0 n = (0, 6) := by rw [hp0, ← hn]; exact mk_k
  have x0 : Ex g p0 := by rw [hp0]; exact ex_mk (by omega)
  have c0 : hf_c p0 = hf_c g + 1 := by rw [hp0]; rfl
  have s0 : hf_s p0 = hf_s g + 5 := by rw [hp0]; rfl
  rw [← hp0]
  obtain ⟨g1, r1, y1, m1, q1, w1, d1, u1⟩ := k_Gr (I := I) (J := J) e0 n0 (by omega) (Z.le (by omega))
  obtain ⟨p1, hp1⟩ : ∃ p, p = hf_sr g1 (n) 0 (some (n + 1)) := ⟨_, rfl⟩
  have n1 : hf_n p1 = n + 10 := by rw [hp1]; exact m1
  have e1 : hf_e p1 = true := by rw [hp1]; exact q1
  have k1 : hf_k p1 (n) = (0, 6) := by rw [hp1]; exact st_k y1 (by omega) k0
  have kk1 : hf_k g1 (n) = (0, 6) := (y1.2 _ (Or.inl (by omega))).1.trans k0
  have x1 : Ex g p1 := by rw [hp1]; exact st_x x0 y1 (by omega) (by omega)
  have c1 : hf_c p1 = hf_c p0 + 9 := by rw [hp1]; exact d1
  have s1 : hf_s p1 = hf_s p0 + 266 := by rw [hp1]; exact u1
  have f1_1 : hf_r p1 (n) 0 = some (n + 1) := by rw [hp1]; exact sr_same
  have v1_1 : Gr p1 (n + 1) := by rw [hp1]; exact Gr.st Ex.r (by omega) (by omega) w1
  obtain ⟨g2, r2, y2, m2, q2, w2, d2, u2⟩ := k_row (I := I) (J := J) (x := 64) (len := 64) e1 n1 (by omega) (by omega) rfl (Z.le (by omega))
  obtain ⟨p2, hp2⟩ : ∃ p, p = hf_sr g2 (n) 1 (some (n + 10)) := ⟨_, rfl⟩
  have n2 : hf_n p2 = n + 12 := by rw [hp2]; exact m2
  have e2 : hf_e p2 = true := by rw [hp2]; exact q2
  have k2 : hf_k p2 (n) = (0, 6) := by rw [hp2]; exact st_k y2 (by omega) k1
  have kk2 : hf_k g2 (n) = (0, 6) := (y2.2 _ (Or.inl (by omega))).1.trans k1
  have x2 : Ex g p2 := by rw [hp2]; exact st_x x1 y2 (by omega) (by omega)
  have c2 : hf_c p2 = hf_c p1 + 2 := by rw [hp2]; exact d2
  have s2 : hf_s p2 = hf_s p1 + 65 := by rw [hp2]; exact u2
  have f2_2 : hf_r p2 (n) 1 = some (n + 10) := by rw [hp2]; exact sr_same
  have v2_2 : Rw p2 (n + 10) 64 := by rw [hp2]; exact w2.sr (by omega)
  have f2_1 : hf_r p2 (n) 0 = some (n + 1) := by rw [hp2]; exact st_r y2 (by omega) (by decide) f1_1
  have v2_1 : Gr p2 (n + 1) := by rw [hp2]; exact Gr.st y2 (by omega) (by omega) v1_1
  refine ⟨p2, ?_, x2, n2, e2, ⟨k2, f2_1, f2_2, v2_1, v2_2⟩, by omega, by omega⟩
  simp only [s75_0, s75_1, s75_4, s75_5, s75_8, s75_9, s75_12, s75_15, s75_16, s75_19, s75_20, s75_22, s75_25, s75_28, hf_bd_v, hf_bd_n, hf_iv_i, hf_iv_l, hf_iv_a, hf_iv_n, hf_iv_2, z_lgl, z_lgg, z_lge, z_lgle, z_lgz, Option.getD_some, Option.isSome_some, ↓reduceIte, not_true_eq_false, not_false_eq_true, Option.toList_some, Option.toList_none, List.cons_append, List.nil_append, Nat.reduceAdd, Nat.add_assoc, ku_ne, ku_same, ne_eq, Nat.reduceEqDiff, reduceCtorEq, Nat.add_eq_left, Nat.left_eq_add, Nat.reduceEqDiff, q10, q_ne, true_or, or_true, n0, e0, show n + 1 < 1000000 by omega, Z.wI (show n ≤ n + 1 by omega) (by omega), Z.wJ (show n ≤ n + 1 by omega) (by omega), r1, kk1, ← hp1, n1, e1, show n + 10 < 1000000 by omega, Z.wI (show n ≤ n + 10 by omega) (by omega), Z.wJ (show n ≤ n + 10 by omega) (by omega), r2, kk2, ← hp2]
theorem k_Pc (he : hf_e g = true) (hn : hf_n g = n) (hn2 : n + 17 < 1000000) (Z : Zr I J n) : ∃ g2, hf_rn 41 0 [some (.ref n)] [] (hf_mk g (0, 3) 3) I J = some (.inl none, g2, I, J) ∧ Ex g g2 ∧ hf_n g2 = n + 17 ∧ hf_e g2 = true ∧ Pc g2 n ∧ hf_c g2 = hf_c g + 17 ∧ hf_s g2 = hf_s g + 661 := by
  obtain ⟨p0, hp0⟩ : ∃ p, p = hf_mk g (0, 3) 3 := ⟨_, rfl⟩
  have n0 : hf_n p0 = n + 1 := by rw [hp0]; exact congrArg (· + 1) hn
  have e0 : hf_e p0 = true := by rw [hp0]; exact he
  have k0 : hf_k p0 n = (0, 3) := by rw [hp0, ← hn]; exact mk_k
  have x0 : Ex g p0 := by rw [hp0]; exact ex_mk (by omega)
  have c0 : hf_c p0 = hf_c g + 1 := by rw [hp0]; rfl
  have s0 : hf_s p0 = hf_s g + 3 := by rw [hp0]; rfl
  rw [← hp0]
  obtain ⟨g1, r1, y1, m1, q1, w1, d1, u1⟩ := k_Sc (I := I) (J := J) e0 n0 (by omega) (Z.le (by omega))
  obtain ⟨p1, hp1⟩ : ∃ p, p = hf_sr g1 (n) 0 (some (n + 1)) := ⟨_, rfl⟩
  have n1 : hf_n p1 = n + 13 := by rw [hp1]; exact m1
  have e1 : hf_e p1 = true := by rw [hp1]; exact q1
  have k1 : hf_k p1 (n) = (0, 3) := by rw [hp1]; exact st_k y1 (by omega) k0
  have kk1 : hf_k g1 (n) = (0, 3) := (y1.2 _ (Or.inl (by omega))).1.trans k0
  have x1 : Ex g p1 := by rw [hp1]; exact st_x x0 y1 (by omega) (by omega)
  have c1 : hf_c p1 = hf_c p0 + 12 := by rw [hp1]; exact d1
  have s1 : hf_s p1 = hf_s p0 + 336 := by rw [hp1]; exact u1
  have f1_1 : hf_r p1 (n) 0 = some (n + 1) := by rw [hp1]; exact sr_same
  have v1_1 : Sc p1 (n + 1) := by rw [hp1]; exact Sc.st Ex.r (by omega) (by omega) w1
  obtain ⟨g2, r2, y2, m2, q2, w2, d2, u2⟩ := k_row (I := I) (J := J) (x := 64) (len := 64) e1 n1 (by omega) (by omega) rfl (Z.le (by omega))
  obtain ⟨p2, hp2⟩ : ∃ p, p = hf_sr g2 (n) 1 (some (n + 13)) := ⟨_, rfl⟩
  have n2 : hf_n p2 = n + 15 := by rw [hp2]; exact m2
  have e2 : hf_e p2 = true := by rw [hp2]; exact q2
  have k2 : hf_k p2 (n) = (0, 3) := by rw [hp2]; exact st_k y2 (by omega) k1
  have kk2 : hf_k g2 (n) = (0, 3) := (y2.2 _ (Or.inl (by omega))).1.trans k1
  have x2 : Ex g p2 := by rw [hp2]; exact st_x x1 y2 (by omega) (by omega)
  have c2 : hf_c p2 = hf_c p1 + 2 := by rw [hp2]; exact d2
  have s2 : hf_s p2 = hf_s p1 + 65 := by rw [hp2]; exact u2
  have f2_2 : hf_r p2 (n) 1 = some (n + 13) := by rw [hp2]; exact sr_same
  have v2_2 : Rw p2 (n + 13) 64 := by rw [hp2]; exact w2.sr (by omega)
  have f2_1 : hf_r p2 (n) 0 = some (n + 1) := by rw [hp2]; exact st_r y2 (by omega) (by decide) f1_1
  have v2_1 : Sc p2 (n + 1) := by rw [hp2]; exact Sc.st y2 (by omega) (by omega) v1_1
  obtain ⟨g3, r3, y3, m3, q3, w3, d3, u3⟩ := k_row (I := I) (J := J) (x := 256) (len := 256) e2 n2 (by omega) (by omega) rfl (Z.le (by omega))
  obtain ⟨p3, hp3⟩ : ∃ p, p = hf_sr g3 (n) 2 (some (n + 15)) := ⟨_, rfl⟩
  have n3 : hf_n p3 = n + 17 := by rw [hp3]; exact m3
  have e3 : hf_e p3 = true := by rw [hp3]; exact q3
  have k3 : hf_k p3 (n) = (0, 3) := by rw [hp3]; exact st_k y3 (by omega) k2
  have kk3 : hf_k g3 (n) = (0, 3) := (y3.2 _ (Or.inl (by omega))).1.trans k2
  have x3 : Ex g p3 := by rw [hp3]; exact st_x x2 y3 (by omega) (by omega)
  have c3 : hf_c p3 = hf_c p2 + 2 := by rw [hp3]; exact d3
  have s3 : hf_s p3 = hf_s p2 + 257 := by rw [hp3]; exact u3
  have f3_3 : hf_r p3 (n) 2 = some (n + 15) := by rw [hp3]; exact sr_same
  have v3_3 : Rw p3 (n + 15) 256 := by rw [hp3]; exact w3.sr (by omega)
  have f3_1 : hf_r p3 (n) 0 = some (n + 1) := by rw [hp3]; exact st_r y3 (by omega) (by decide) f2_1
  have v3_1 : Sc p3 (n + 1) := by rw [hp3]; exact Sc.st y3 (by omega) (by omega) v2_1
  have f3_2 : hf_r p3 (n) 1 = some (n + 13) := by rw [hp3]; exact st_r y3 (by omega) (by decide) f2_2
  have v3_2 : Rw p3 (n + 13) 64 := by rw [hp3]; exact st_w y3 (by omega) (by omega) v2_2
  refine ⟨p3, ?_, x3, n3, e3, ⟨k3, f3_1, f3_2, f3_3, v3_1, v3_2, v3_3⟩, by omega, by omega⟩
  simp only [s41_0, s41_1, s41_4, s41_5, s41_8, s41_9, s41_12, s41_15, s41_16, s41_19, s41_20, s41_22, s41_25, s41_28, s41_29, s41_32, s41_33, s41_36, s41_39, s41_42, hf_bd_v, hf_bd_n, hf_iv_i, hf_iv_l, hf_iv_a, hf_iv_n, hf_iv_2, z_lgl, z_lgg, z_lge, z_lgle, z_lgz, Option.getD_some, Option.isSome_some, ↓reduceIte, not_true_eq_false, not_false_eq_true, Option.toList_some, Option.toList_none, List.cons_append, List.nil_append, Nat.reduceAdd, Nat.add_assoc, ku_ne, ku_same, ne_eq, Nat.reduceEqDiff, reduceCtorEq, Nat.add_eq_left, Nat.left_eq_add, Nat.reduceEqDiff, q10, q_ne, true_or, or_true, n0, e0, show n + 1 < 1000000 by omega, Z.wI (show n ≤ n + 1 by omega) (by omega), Z.wJ (show n ≤ n + 1 by omega) (by omega), r1, kk1, ← hp1, n1, e1, show n + 13 < 1000000 by omega, Z.wI (show n ≤ n + 13 by omega) (by omega), Z.wJ (show n ≤ n + 13 by omega) (by omega), r2, kk2, ← hp2, n2, e2, show n + 15 < 1000000 by omega, Z.wI (show n ≤ n + 15 by omega) (by omega), Z.wJ (show n ≤ n + 15 by omega) (by omega), r3, kk3, ← hp3]
theorem k_Pu (he : hf_e g = true) (hn : hf_n g = 238) (Z : Zr I J 238) : ∃ g2, hf_rn 49 0 [some (.ref 238)] [] (hf_mk g (0, 4) 7) I J = some (.inl none, g2, I, J) ∧ Ex g g2 ∧ hf_n g2 = 249 ∧ hf_e g2 = true ∧ Pu g2 ∧ hf_c g2 = hf_c g + 11 ∧ hf_s g2 = hf_s g + 188 := by
  obtain ⟨p0, hp0⟩ : ∃ p, p = hf_mk g (0, 4) 7 := ⟨_, rfl⟩
  have n0 : hf_n p0 = 239 := by rw [hp0]; exact congrArg (· + 1) hn
  have e0 : hf_e p0 = true := by rw [hp0]; exact he
  have k0 : hf_k p0 238 = (0, 4) := by rw [hp0, ← hn]; exact mk_k
  have x0 : Ex g p0 := by rw [hp0]; exact ex_mk (by omega)
  have c0 : hf_c p0 = hf_c g + 1 := by rw [hp0]; rfl
  have s0 : hf_s p0 = hf_s g + 7 := by rw [hp0]; rfl
  rw [← hp0]
  obtain ⟨g1, r1, y1, m1, q1, w1, d1, u1⟩ := k_row (I := I) (J := J) (x := 64) (len := 64) e0 n0 (by omega) (by omega) rfl (Z.le (by omega))
  obtain ⟨p1, hp1⟩ : ∃ p, p = hf_sr g1 (238) 2 (some (239)) := ⟨_, rfl⟩
  have n1 : hf_n p1 = 241 := by rw [hp1]; exact m1
  have e1 : hf_e p1 = true := by rw [hp1]; exact q1
  have k1 : hf_k p1 (238) = (0, 4) := by rw [hp1]; exact st_k y1 (by omega) k0
  have kk1 : hf_k g1 (238) = (0, 4) := (y1.2 _ (Or.inl (by omega))).1.trans k0
  have x1 : Ex g p1 := by rw [hp1]; exact st_x x0 y1 (by omega) (by omega)
  have c1 : hf_c p1 = hf_c p0 + 2 := by rw [hp1]; exact d1
  have s1 : hf_s p1 = hf_s p0 + 65 := by rw [hp1]; exact u1
  have f1_1 : hf_r p1 (238) 2 = some (239) := by rw [hp1]; exact sr_same
  have v1_1 : Rw p1 (239) 64 := by rw [hp1]; exact w1.sr (by omega)
  obtain ⟨g2, r2, y2, m2, q2, w2, d2, u2⟩ := k_row (I := I) (J := J) (x := 64) (len := 64) e1 n1 (by omega) (by omega) rfl (Z.le (by omega))
  obtain ⟨p2, hp2⟩ : ∃ p, p = hf_sr g2 (238) 3 (some (241)) := ⟨_, rfl⟩
  have n2 : hf_n p2 = 243 := by rw [hp2]; exact m2
  have e2 : hf_e p2 = true := by rw [hp2]; exact q2
  have k2 : hf_k p2 (238) = (0, 4) := by rw [hp2]; exact st_k y2 (by omega) k1
  have kk2 : hf_k g2 (238) = (0, 4) := (y2.2 _ (Or.inl (by omega))).1.trans k1
  have x2 : Ex g p2 := by rw [hp2]; exact st_x x1 y2 (by omega) (by omega)
  have c2 : hf_c p2 = hf_c p1 + 2 := by rw [hp2]; exact d2
  have s2 : hf_s p2 = hf_s p1 + 65 := by rw [hp2]; exact u2
  have f2_2 : hf_r p2 (238) 3 = some (241) := by rw [hp2]; exact sr_same
  have v2_2 : Rw p2 (241) 64 := by rw [hp2]; exact w2.sr (by omega)
  have f2_1 : hf_r p2 (238) 2 = some (239) := by rw [hp2]; exact st_r y2 (by omega) (by decide) f1_1
  have v2_1 : Rw p2 (239) 64 := by rw [hp2]; exact st_w y2 (by omega) (by omega) v1_1
  obtain ⟨g3, r3, y3, m3, q3, w3, d3, u3⟩ := k_row (I := I) (J := J) (x := 16) (len := 16) e2 n2 (by omega) (by omega) rfl (Z.le (by omega))
  obtain ⟨p3, hp3⟩ : ∃ p, p = hf_sr g3 (238) 4 (some (243)) := ⟨_, rfl⟩
  have n3 : hf_n p3 = 245 := by rw [hp3]; exact m3
  have e3 : hf_e p3 = true := by rw [hp3]; exact q3
  have k3 : hf_k p3 (238) = (0, 4) := by rw [hp3]; exact st_k y3 (by omega) k2
  have kk3 : hf_k g3 (238) = (0, 4) := (y3.2 _ (Or.inl (by omega))).1.trans k2
  have x3 : Ex g p3 := by rw [hp3]; exact st_x x2 y3 (by omega) (by omega)
  have c3 : hf_c p3 = hf_c p2 + 2 := by rw [hp3]; exact d3
  have s3 : hf_s p3 = hf_s p2 + 17 := by rw [hp3]; exact u3
  have f3_3 : hf_r p3 (238) 4 = some (243) := by rw [hp3]; exact sr_same
  have v3_3 : Rw p3 (243) 16 := by rw [hp3]; exact w3.sr (by omega)
  have f3_1 : hf_r p3 (238) 2 = some (239) := by rw [hp3]; exact st_r y3 (by omega) (by decide) f2_1
  have v3_1 : Rw p3 (239) 64 := by rw [hp3]; exact st_w y3 (by omega) (by omega) v2_1
  have f3_2 : hf_r p3 (238) 3 = some (241) := by rw [hp3]; exact st_r y3 (by omega) (by decide) f2_2
  have v3_2 : Rw p3 (241) 64 := by rw [hp3]; exact st_w y3 (by omega) (by omega) v2_2
  obtain ⟨g4, r4, y4, m4, q4, w4, d4, u4⟩ := k_row (I := I) (J := J) (x := 16) (len := 16) e3 n3 (by omega) (by omega) rfl (Z.le (by omega))
  obtain ⟨p4, hp4⟩ : ∃ p, p = hf_sr g4 (238) 5 (some (245)) := ⟨_, rfl⟩
  have n4 : hf_n p4 = 247 := by rw [hp4]; exact m4
  have e4 : hf_e p4 = true := by rw [hp4]; exact q4
  have k4 : hf_k p4 (238) = (0, 4) := by rw [hp4]; exact st_k y4 (by omega) k3
  have kk4 : hf_k g4 (238) = (0, 4) := (y4.2 _ (Or.inl (by omega))).1.trans k3
  have x4 : Ex g p4 := by rw [hp4]; exact st_x x3 y4 (by omega) (by omega)
  have c4 : hf_c p4 = hf_c p3 + 2 := by rw [hp4]; exact d4
  have s4 : hf_s p4 = hf_s p3 + 17 := by rw [hp4]; exact u4
  have f4_4 : hf_r p4 (238) 5 = some (245) := by rw [hp4]; exact sr_same
  have v4_4 : Rw p4 (245) 16 := by rw [hp4]; exact w4.sr (by omega)
  have f4_1 : hf_r p4 (238) 2 = some (239) := by rw [hp4]; exact st_r y4 (by omega) (by decide) f3_1
  have v4_1 : Rw p4 (239) 64 := by rw [hp4]; exact st_w y4 (by omega) (by omega) v3_1
  have f4_2 : hf_r p4 (238) 3 = some (241) := by rw [hp4]; exact st_r y4 (by omega) (by decide) f3_2
  have v4_2 : Rw p4 (241) 64 := by rw [hp4]; exact st_w y4 (by omega) (by omega) v3_2
  have f4_3 : hf_r p4 (238) 4 = some (243) := by rw [hp4]; exact st_r y4 (by omega) (by decide) f3_3
  have v4_3 : Rw p4 (243) 16 := by rw [hp4]; exact st_w y4 (by omega) (by omega) v3_3
  obtain ⟨g5, r5, y5, m5, q5, w5, d5, u5⟩ := k_row (I := I) (J := J) (x := 16) (len := 16) e4 n4 (by omega) (by omega) rfl (Z.le (by omega))
  obtain ⟨p5, hp5⟩ : ∃ p, p = hf_sr g5 (238) 6 (some (247)) := ⟨_, rfl⟩
  have n5 : hf_n p5 = 249 := by rw [hp5]; exact m5
  have e5 : hf_e p5 = true := by rw [hp5]; exact q5
  have k5 : hf_k p5 (238) = (0, 4) := by rw [hp5]; exact st_k y5 (by omega) k4
  have kk5 : hf_k g5 (238) = (0, 4) := (y5.2 _ (Or.inl (by omega))).1.trans k4
  have x5 : Ex g p5 := by rw [hp5]; exact st_x x4 y5 (by omega) (by omega)
  have c5 : hf_c p5 = hf_c p4 + 2 := by rw [hp5]; exact d5
  have s5 : hf_s p5 = hf_s p4 + 17 := by rw [hp5]; exact u5
  have f5_5 : hf_r p5 (238) 6 = some (247) := by rw [hp5]; exact sr_same
  have v5_5 : Rw p5 (247) 16 := by rw [hp5]; exact w5.sr (by omega)
  have f5_1 : hf_r p5 (238) 2 = some (239) := by rw [hp5]; exact st_r y5 (by omega) (by decide) f4_1
  have v5_1 : Rw p5 (239) 64 := by rw [hp5]; exact st_w y5 (by omega) (by omega) v4_1
  have f5_2 : hf_r p5 (238) 3 = some (241) := by rw [hp5]; exact st_r y5 (by omega) (by decide) f4_2
  have v5_2 : Rw p5 (241) 64 := by rw [hp5]; exact st_w y5 (by omega) (by omega) v4_2
  have f5_3 : hf_r p5 (238) 4 = some (243) := by rw [hp5]; exact st_r y5 (by omega) (by decide) f4_3
  have v5_3 : Rw p5 (243) 16 := by rw [hp5]; exact st_w y5 (by omega) (by omega) v4_3
  have f5_4 : hf_r p5 (238) 5 = some (245) := by rw [hp5]; exact st_r y5 (by omega) (by decide) f4_4
  have v5_4 : Rw p5 (245) 16 := by rw [hp5]; exact st_w y5 (by omega) (by omega) v4_4
  refine ⟨p5, ?_, x5, n5, e5, ⟨k5, f5_1, f5_2, f5_3, f5_4, f5_5, v5_1, v5_2, v5_3, v5_4, v5_5⟩, by omega, by omega⟩
  simp only [s49_0, s49_1, s49_4, s49_5, s49_8, s49_9, s49_11, s49_14, s49_17, s49_18, s49_21, s49_22, s49_24, s49_27, s49_30, s49_31, s49_34, s49_35, s49_37, s49_40, s49_43, s49_44, s49_47, s49_48, s49_50, s49_53, s49_56, s49_57, s49_60, s49_61, s49_63, s49_66, s49_69, hf_bd_v, hf_bd_n, hf_iv_i, hf_iv_l, hf_iv_a, hf_iv_n, hf_iv_2, z_lgl, z_lgg, z_lge, z_lgle, z_lgz, Option.getD_some, Option.isSome_some, ↓reduceIte, not_true_eq_false, not_false_eq_true, Option.toList_some, Option.toList_none, List.cons_append, List.nil_append, Nat.reduceAdd, Nat.add_assoc, ku_ne, ku_same, ne_eq, Nat.reduceEqDiff, reduceCtorEq, Nat.add_eq_left, Nat.left_eq_add, Nat.reduceEqDiff, q10, q_ne, true_or, or_true, n0, e0, show 239 < 1000000 by omega, Z.wI (show 238 ≤ 239 by omega) (by omega), Z.wJ (show 238 ≤ 239 by omega) (by omega), r1, kk1, ← hp1, n1, e1, show 241 < 1000000 by omega, Z.wI (show 238 ≤ 241 by omega) (by omega), Z.wJ (show 238 ≤ 241 by omega) (by omega), r2, kk2, ← hp2, n2, e2, show 243 < 1000000 by omega, Z.wI (show 238 ≤ 243 by omega) (by omega), Z.wJ (show 238 ≤ 243 by omega) (by omega), r3, kk3, ← hp3, n3, e3, show 245 < 1000000 by omega, Z.wI (show 238 ≤ 245 by omega) (by omega), Z.wJ (show 238 ≤ 245 by omega) (by omega), r4, kk4, ← hp4, n4, e4, show 247 < 1000000 by omega, Z.wI (show 238 ≤ 247 by omega) (by omega), Z.wJ (show 238 ≤ 247 by omega) (by omega), r5, kk5, ← hp5]
theorem k_Jo (he : hf_e g = true) (hn : hf_n g = 249) (Z : Zr I J 249) : ∃ g2, hf_rn 37 0 [some (.ref 249)] [] (hf_mk g (0, 2) 2) I J = some (.inl none, g2, I, J) ∧ Ex g g2 ∧ hf_n g2 = 254 ∧ hf_e g2 = true ∧ Jo g2 ∧ hf_c g2 = hf_c g + 5 ∧ hf_s g2 = hf_s g + 132 := by
  obtain ⟨p0, hp0⟩ : ∃ p, p = hf_mk g (0, 2) 2 := ⟨_, rfl⟩
  have n0 : hf_n p0 = 250 := by rw [hp0]; exact congrArg (· + 1) hn
  have e0 : hf_e p0 = true := by rw [hp0]; exact he
  have k0 : hf_k p0 249 = (0, 2) := by rw [hp0, ← hn]; exact mk_k
  have x0 : Ex g p0 := by rw [hp0]; exact ex_mk (by omega)
  have c0 : hf_c p0 = hf_c g + 1 := by rw [hp0]; rfl
  have s0 : hf_s p0 = hf_s g + 2 := by rw [hp0]; rfl
  rw [← hp0]
  obtain ⟨g1, r1, y1, m1, q1, w1, d1, u1⟩ := k_row (I := I) (J := J) (x := 64) (len := 64) e0 n0 (by omega) (by omega) rfl (Z.le (by omega))
  obtain ⟨p1, hp1⟩ : ∃ p, p = hf_sr g1 (249) 0 (some (250)) := ⟨_, rfl⟩
  have n1 : hf_n p1 = 252 := by rw [hp1]; exact m1
  have e1 : hf_e p1 = true := by rw [hp1]; exact q1
  have k1 : hf_k p1 (249) = (0, 2) := by rw [hp1]; exact st_k y1 (by omega) k0
  have kk1 : hf_k g1 (249) = (0, 2) := (y1.2 _ (Or.inl (by omega))).1.trans k0
  have x1 : Ex g p1 := by rw [hp1]; exact st_x x0 y1 (by omega) (by omega)
  have c1 : hf_c p1 = hf_c p0 + 2 := by rw [hp1]; exact d1
  have s1 : hf_s p1 = hf_s p0 + 65 := by rw [hp1]; exact u1
  have f1_1 : hf_r p1 (249) 0 = some (250) := by rw [hp1]; exact sr_same
  have v1_1 : Rw p1 (250) 64 := by rw [hp1]; exact w1.sr (by omega)
  obtain ⟨g2, r2, y2, m2, q2, w2, d2, u2⟩ := k_row (I := I) (J := J) (x := 64) (len := 64) e1 n1 (by omega) (by omega) rfl (Z.le (by omega))
  obtain ⟨p2, hp2⟩ : ∃ p, p = hf_sr g2 (249) 1 (some (252)) := ⟨_, rfl⟩
  have n2 : hf_n p2 = 254 := by rw [hp2]; exact m2
  have e2 : hf_e p2 = true := by rw [hp2]; exact q2
  have k2 : hf_k p2 (249) = (0, 2) := by rw [hp2]; exact st_k y2 (by omega) k1
  have kk2 : hf_k g2 (249) = (0, 2) := (y2.2 _ (Or.inl (by omega))).1.trans k1
  have x2 : Ex g p2 := by rw [hp2]; exact st_x x1 y2 (by omega) (by omega)
  have c2 : hf_c p2 = hf_c p1 + 2 := by rw [hp2]; exact d2
  have s2 : hf_s p2 = hf_s p1 + 65 := by rw [hp2]; exact u2
  have f2_2 : hf_r p2 (249) 1 = some (252) := by rw [hp2]; exact sr_same
  have v2_2 : Rw p2 (252) 64 := by rw [hp2]; exact w2.sr (by omega)
  have f2_1 : hf_r p2 (249) 0 = some (250) := by rw [hp2]; exact st_r y2 (by omega) (by decide) f1_1
  have v2_1 : Rw p2 (250) 64 := by rw [hp2]; exact st_w y2 (by omega) (by omega) v1_1
  refine ⟨p2, ?_, x2, n2, e2, ⟨k2, f2_1, f2_2, v2_1, v2_2⟩, by omega, by omega⟩
  simp only [s37_0, s37_1, s37_4, s37_5, s37_8, s37_9, s37_11, s37_14, s37_17, s37_18, s37_21, s37_22, s37_24, s37_27, s37_30, hf_bd_v, hf_bd_n, hf_iv_i, hf_iv_l, hf_iv_a, hf_iv_n, hf_iv_2, z_lgl, z_lgg, z_lge, z_lgle, z_lgz, Option.getD_some, Option.isSome_some, ↓reduceIte, not_true_eq_false, not_false_eq_true, Option.toList_some, Option.toList_none, List.cons_append, List.nil_append, Nat.reduceAdd, Nat.add_assoc, ku_ne, ku_same, ne_eq, Nat.reduceEqDiff, reduceCtorEq, Nat.add_eq_left, Nat.left_eq_add, Nat.reduceEqDiff, q10, q_ne, true_or, or_true, n0, e0, show 250 < 1000000 by omega, Z.wI (show 249 ≤ 250 by omega) (by omega), Z.wJ (show 249 ≤ 250 by omega) (by omega), r1, kk1, ← hp1, n1, e1, show 252 < 1000000 by omega, Z.wI (show 249 ≤ 252 by omega) (by omega), Z.wJ (show 249 ≤ 252 by omega) (by omega), r2, kk2, ← hp2]
theorem k_Un (he : hf_e g = true) (hn : hf_n g = 254) (Z : Zr I J 254) : ∃ g2, hf_rn 98 0 [some (.ref 254)] [] (hf_mk g (0, 8) 1) I J = some (.inl none, g2, I, J) ∧ Ex g g2 ∧ hf_n g2 = 257 ∧ hf_e g2 = true ∧ Un g2 ∧ hf_c g2 = hf_c g + 3 ∧ hf_s g2 = hf_s g + 66 := by
  obtain ⟨p0, hp0⟩ : ∃ p, p = hf_mk g (0, 8) 1 := ⟨_, rfl⟩
  have n0 : hf_n p0 = 255 := by rw [hp0]; exact congrArg (· + 1) hn
  have e0 : hf_e p0 = true := by rw [hp0]; exact he
  have k0 : hf_k p0 254 = (0, 8) := by rw [hp0, ← hn]; exact mk_k
  have x0 : Ex g p0 := by rw [hp0]; exact ex_mk (by omega)
  have c0 : hf_c p0 = hf_c g + 1 := by rw [hp0]; rfl
  have s0 : hf_s p0 = hf_s g + 1 := by rw [hp0]; rfl
  rw [← hp0]
  obtain ⟨g1, r1, y1, m1, q1, w1, d1, u1⟩ := k_row (I := I) (J := J) (x := 64) (len := 64) e0 n0 (by omega) (by omega) rfl (Z.le (by omega))
  obtain ⟨p1, hp1⟩ : ∃ p, p = hf_sr g1 (254) 0 (some (255)) := ⟨_, rfl⟩
  have n1 : hf_n p1 = 257 := by rw [hp1]; exact m1
  have e1 : hf_e p1 = true := by rw [hp1]; exact q1
  have k1 : hf_k p1 (254) = (0, 8) := by rw [hp1]; exact st_k y1 (by omega) k0
  have kk1 : hf_k g1 (254) = (0, 8) := (y1.2 _ (Or.inl (by omega))).1.trans k0
  have x1 : Ex g p1 := by rw [hp1]; exact st_x x0 y1 (by omega) (by omega)
  have c1 : hf_c p1 = hf_c p0 + 2 := by rw [hp1]; exact d1
  have s1 : hf_s p1 = hf_s p0 + 65 := by rw [hp1]; exact u1
  have f1_1 : hf_r p1 (254) 0 = some (255) := by rw [hp1]; exact sr_same
  have v1_1 : Rw p1 (255) 64 := by rw [hp1]; exact w1.sr (by omega)
  refine ⟨p1, ?_, x1, n1, e1, ⟨k1, f1_1, v1_1⟩, by omega, by omega⟩
  simp only [s98_0, s98_1, s98_4, s98_5, s98_8, s98_9, s98_11, s98_14, s98_17, hf_bd_v, hf_bd_n, hf_iv_i, hf_iv_l, hf_iv_a, hf_iv_n, hf_iv_2, z_lgl, z_lgg, z_lge, z_lgle, z_lgz, Option.getD_some, Option.isSome_some, ↓reduceIte, not_true_eq_false, not_false_eq_true, Option.toList_some, Option.toList_none, List.cons_append, List.nil_append, Nat.reduceAdd, Nat.add_assoc, ku_ne, ku_same, ne_eq, Nat.reduceEqDiff, reduceCtorEq, Nat.add_eq_left, Nat.left_eq_add, Nat.reduceEqDiff, q10, q_ne, true_or, or_true, n0, e0, show 255 < 1000000 by omega, Z.wI (show 254 ≤ 255 by omega) (by omega), Z.wJ (show 254 ≤ 255 by omega) (by omega), r1, kk1, ← hp1]
theorem k_Sk (he : hf_e g = true) (hn : hf_n g = 257) (Z : Zr I J 257) : ∃ g2, hf_rn 88 0 [some (.ref 257)] [] (hf_mk g (0, 7) 12) I J = some (.inl none, g2, I, J) ∧ Ex g g2 ∧ hf_n g2 = 270 ∧ hf_e g2 = true ∧ Sk g2 ∧ hf_c g2 = hf_c g + 13 ∧ hf_s g2 = hf_s g + 4626 := by
  obtain ⟨p0, hp0⟩ : ∃ p, p = hf_mk g (0, 7) 12 := ⟨_, rfl⟩
  have n0 : hf_n p0 = 258 := by rw [hp0]; exact congrArg (· + 1) hn
  have e0 : hf_e p0 = true := by rw [hp0]; exact he
  have k0 : hf_k p0 257 = (0, 7) := by rw [hp0, ← hn]; exact mk_k
  have x0 : Ex g p0 := by rw [hp0]; exact ex_mk (by omega)
  have c0 : hf_c p0 = hf_c g + 1 := by rw [hp0]; rfl
  have s0 : hf_s p0 = hf_s g + 12 := by rw [hp0]; rfl
  rw [← hp0]
  obtain ⟨g1, r1, y1, m1, q1, w1, d1, u1⟩ := k_row (I := I) (J := J) (x := 768) (len := 768) e0 n0 (by omega) (by omega) rfl (Z.le (by omega))
  obtain ⟨p1, hp1⟩ : ∃ p, p = hf_sr g1 (257) 0 (some (258)) := ⟨_, rfl⟩
  have n1 : hf_n p1 = 260 := by rw [hp1]; exact m1
  have e1 : hf_e p1 = true := by rw [hp1]; exact q1
  have k1 : hf_k p1 (257) = (0, 7) := by rw [hp1]; exact st_k y1 (by omega) k0
  have kk1 : hf_k g1 (257) = (0, 7) := (y1.2 _ (Or.inl (by omega))).1.trans k0
  have x1 : Ex g p1 := by rw [hp1]; exact st_x x0 y1 (by omega) (by omega)
  have c1 : hf_c p1 = hf_c p0 + 2 := by rw [hp1]; exact d1
  have s1 : hf_s p1 = hf_s p0 + 769 := by rw [hp1]; exact u1
  have f1_1 : hf_r p1 (257) 0 = some (258) := by rw [hp1]; exact sr_same
  have v1_1 : Rw p1 (258) 768 := by rw [hp1]; exact w1.sr (by omega)
  obtain ⟨g2, r2, y2, m2, q2, w2, d2, u2⟩ := k_row (I := I) (J := J) (x := 768) (len := 768) e1 n1 (by omega) (by omega) rfl (Z.le (by omega))
  obtain ⟨p2, hp2⟩ : ∃ p, p = hf_sr g2 (257) 1 (some (260)) := ⟨_, rfl⟩
  have n2 : hf_n p2 = 262 := by rw [hp2]; exact m2
  have e2 : hf_e p2 = true := by rw [hp2]; exact q2
  have k2 : hf_k p2 (257) = (0, 7) := by rw [hp2]; exact st_k y2 (by omega) k1
  have kk2 : hf_k g2 (257) = (0, 7) := (y2.2 _ (Or.inl (by omega))).1.trans k1
  have x2 : Ex g p2 := by rw [hp2]; exact st_x x1 y2 (by omega) (by omega)
  have c2 : hf_c p2 = hf_c p1 + 2 := by rw [hp2]; exact d2
  have s2 : hf_s p2 = hf_s p1 + 769 := by rw [hp2]; exact u2
  have f2_2 : hf_r p2 (257) 1 = some (260) := by rw [hp2]; exact sr_same
  have v2_2 : Rw p2 (260) 768 := by rw [hp2]; exact w2.sr (by omega)
  have f2_1 : hf_r p2 (257) 0 = some (258) := by rw [hp2]; exact st_r y2 (by omega) (by decide) f1_1
  have v2_1 : Rw p2 (258) 768 := by rw [hp2]; exact st_w y2 (by omega) (by omega) v1_1
  obtain ⟨g3, r3, y3, m3, q3, w3, d3, u3⟩ := k_row (I := I) (J := J) (x := 768) (len := 768) e2 n2 (by omega) (by omega) rfl (Z.le (by omega))
  obtain ⟨p3, hp3⟩ : ∃ p, p = hf_sr g3 (257) 2 (some (262)) := ⟨_, rfl⟩
  have n3 : hf_n p3 = 264 := by rw [hp3]; exact m3
  have e3 : hf_e p3 = true := by rw [hp3]; exact q3
  have k3 : hf_k p3 (257) = (0, 7) := by rw [hp3]; exact st_k y3 (by omega) k2
  have kk3 : hf_k g3 (257) = (0, 7) := (y3.2 _ (Or.inl (by omega))).1.trans k2
  have x3 : Ex g p3 := by rw [hp3]; exact st_x x2 y3 (by omega) (by omega)
  have c3 : hf_c p3 = hf_c p2 + 2 := by rw [hp3]; exact d3
  have s3 : hf_s p3 = hf_s p2 + 769 := by rw [hp3]; exact u3
  have f3_3 : hf_r p3 (257) 2 = some (262) := by rw [hp3]; exact sr_same
  have v3_3 : Rw p3 (262) 768 := by rw [hp3]; exact w3.sr (by omega)
  have f3_1 : hf_r p3 (257) 0 = some (258) := by rw [hp3]; exact st_r y3 (by omega) (by decide) f2_1
  have v3_1 : Rw p3 (258) 768 := by rw [hp3]; exact st_w y3 (by omega) (by omega) v2_1
  have f3_2 : hf_r p3 (257) 1 = some (260) := by rw [hp3]; exact st_r y3 (by omega) (by decide) f2_2
  have v3_2 : Rw p3 (260) 768 := by rw [hp3]; exact st_w y3 (by omega) (by omega) v2_2
  obtain ⟨g4, r4, y4, m4, q4, w4, d4, u4⟩ := k_row (I := I) (J := J) (x := 768) (len := 768) e3 n3 (by omega) (by omega) rfl (Z.le (by omega))
  obtain ⟨p4, hp4⟩ : ∃ p, p = hf_sr g4 (257) 3 (some (264)) := ⟨_, rfl⟩
  have n4 : hf_n p4 = 266 := by rw [hp4]; exact m4
  have e4 : hf_e p4 = true := by rw [hp4]; exact q4
  have k4 : hf_k p4 (257) = (0, 7) := by rw [hp4]; exact st_k y4 (by omega) k3
  have kk4 : hf_k g4 (257) = (0, 7) := (y4.2 _ (Or.inl (by omega))).1.trans k3
  have x4 : Ex g p4 := by rw [hp4]; exact st_x x3 y4 (by omega) (by omega)
  have c4 : hf_c p4 = hf_c p3 + 2 := by rw [hp4]; exact d4
  have s4 : hf_s p4 = hf_s p3 + 769 := by rw [hp4]; exact u4
  have f4_4 : hf_r p4 (257) 3 = some (264) := by rw [hp4]; exact sr_same
  have v4_4 : Rw p4 (264) 768 := by rw [hp4]; exact w4.sr (by omega)
  have f4_1 : hf_r p4 (257) 0 = some (258) := by rw [hp4]; exact st_r y4 (by omega) (by decide) f3_1
  have v4_1 : Rw p4 (258) 768 := by rw [hp4]; exact st_w y4 (by omega) (by omega) v3_1
  have f4_2 : hf_r p4 (257) 1 = some (260) := by rw [hp4]; exact st_r y4 (by omega) (by decide) f3_2
  have v4_2 : Rw p4 (260) 768 := by rw [hp4]; exact st_w y4 (by omega) (by omega) v3_2
  have f4_3 : hf_r p4 (257) 2 = some (262) := by rw [hp4]; exact st_r y4 (by omega) (by decide) f3_3
  have v4_3 : Rw p4 (262) 768 := by rw [hp4]; exact st_w y4 (by omega) (by omega) v3_3
  obtain ⟨g5, r5, y5, m5, q5, w5, d5, u5⟩ := k_row (I := I) (J := J) (x := 768) (len := 768) e4 n4 (by omega) (by omega) rfl (Z.le (by omega))
  obtain ⟨p5, hp5⟩ : ∃ p, p = hf_sr g5 (257) 4 (some (266)) := ⟨_, rfl⟩
  have n5 : hf_n p5 = 268 := by rw [hp5]; exact m5
  have e5 : hf_e p5 = true := by rw [hp5]; exact q5
  have k5 : hf_k p5 (257) = (0, 7) := by rw [hp5]; exact st_k y5 (by omega) k4
  have kk5 : hf_k g5 (257) = (0, 7) := (y5.2 _ (Or.inl (by omega))).1.trans k4
  have x5 : Ex g p5 := by rw [hp5]; exact st_x x4 y5 (by omega) (by omega)
  have c5 : hf_c p5 = hf_c p4 + 2 := by rw [hp5]; exact d5
  have s5 : hf_s p5 = hf_s p4 + 769 := by rw [hp5]; exact u5
  have f5_5 : hf_r p5 (257) 4 = some (266) := by rw [hp5]; exact sr_same
  have v5_5 : Rw p5 (266) 768 := by rw [hp5]; exact w5.sr (by omega)
  have f5_1 : hf_r p5 (257) 0 = some (258) := by rw [hp5]; exact st_r y5 (by omega) (by decide) f4_1
  have v5_1 : Rw p5 (258) 768 := by rw [hp5]; exact st_w y5 (by omega) (by omega) v4_1
  have f5_2 : hf_r p5 (257) 1 = some (260) := by rw [hp5]; exact st_r y5 (by omega) (by decide) f4_2
  have v5_2 : Rw p5 (260) 768 := by rw [hp5]; exact st_w y5 (by omega) (by omega) v4_2
  have f5_3 : hf_r p5 (257) 2 = some (262) := by rw [hp5]; exact st_r y5 (by omega) (by decide) f4_3
  have v5_3 : Rw p5 (262) 768 := by rw [hp5]; exact st_w y5 (by omega) (by omega) v4_3
  have f5_4 : hf_r p5 (257) 3 = some (264) := by rw [hp5]; exact st_r y5 (by omega) (by decide) f4_4
  have v5_4 : Rw p5 (264) 768 := by rw [hp5]; exact st_w y5 (by omega) (by omega) v4_4
  obtain ⟨g6, r6, y6, m6, q6, w6, d6, u6⟩ := k_row (I := I) (J := J) (x := 768) (len := 768) e5 n5 (by omega) (by omega) rfl (Z.le (by omega))
  obtain ⟨p6, hp6⟩ : ∃ p, p = hf_sr g6 (257) 5 (some (268)) := ⟨_, rfl⟩
  have n6 : hf_n p6 = 270 := by rw [hp6]; exact m6
  have e6 : hf_e p6 = true := by rw [hp6]; exact q6
  have k6 : hf_k p6 (257) = (0, 7) := by rw [hp6]; exact st_k y6 (by omega) k5
  have kk6 : hf_k g6 (257) = (0, 7) := (y6.2 _ (Or.inl (by omega))).1.trans k5
  have x6 : Ex g p6 := by rw [hp6]; exact st_x x5 y6 (by omega) (by omega)
  have c6 : hf_c p6 = hf_c p5 + 2 := by rw [hp6]; exact d6
  have s6 : hf_s p6 = hf_s p5 + 769 := by rw [hp6]; exact u6
  have f6_6 : hf_r p6 (257) 5 = some (268) := by rw [hp6]; exact sr_same
  have v6_6 : Rw p6 (268) 768 := by rw [hp6]; exact w6.sr (by omega)
  have f6_1 : hf_r p6 (257) 0 = some (258) := by rw [hp6]; exact st_r y6 (by omega) (by decide) f5_1
  have v6_1 : Rw p6 (258) 768 := by rw [hp6]; exact st_w y6 (by omega) (by omega) v5_1
  have f6_2 : hf_r p6 (257) 1 = some (260) := by rw [hp6]; exact st_r y6 (by omega) (by decide) f5_2
  have v6_2 : Rw p6 (260) 768 := by rw [hp6]; exact st_w y6 (by omega) (by omega) v5_2
  have f6_3 : hf_r p6 (257) 2 = some (262) := by rw [hp6]; exact st_r y6 (by omega) (by decide) f5_3
  have v6_3 : Rw p6 (262) 768 := by rw [hp6]; exact st_w y6 (by omega) (by omega) v5_3
  have f6_4 : hf_r p6 (257) 3 = some (264) := by rw [hp6]; exact st_r y6 (by omega) (by decide) f5_4
  have v6_4 : Rw p6 (264) 768 := by rw [hp6]; exact st_w y6 (by omega) (by omega) v5_4
  have f6_5 : hf_r p6 (257) 4 = some (266) := by rw [hp6]; exact st_r y6 (by omega) (by decide) f5_5
  have v6_5 : Rw p6 (266) 768 := by rw [hp6]; exact st_w y6 (by omega) (by omega) v5_5
  refine ⟨p6, ?_, x6, n6, e6, ⟨k6, f6_1, f6_2, f6_3, f6_4, f6_5, f6_6, v6_1, v6_2, v6_3, v6_4, v6_5, v6_6⟩, by omega, by omega⟩
  simp only [s88_0, s88_1, s88_4, s88_5, s88_8, s88_9, s88_12, s88_15, s88_18, s88_19, s88_22, s88_23, s88_26, s88_29, s88_32, s88_33, s88_36, s88_37, s88_40, s88_43, s88_46, s88_47, s88_50, s88_51, s88_54, s88_57, s88_60, s88_61, s88_64, s88_65, s88_68, s88_71, s88_74, s88_75, s88_78, s88_79, s88_82, s88_85, s88_88, hf_bd_v, hf_bd_n, hf_iv_i, hf_iv_l, hf_iv_a, hf_iv_n, hf_iv_2, z_lgl, z_lgg, z_lge, z_lgle, z_lgz, Option.getD_some, Option.isSome_some, ↓reduceIte, not_true_eq_false, not_false_eq_true, Option.toList_some, Option.toList_none, List.cons_append, List.nil_append, Nat.reduceAdd, Nat.add_assoc, ku_ne, ku_same, ne_eq, Nat.reduceEqDiff, reduceCtorEq, Nat.add_eq_left, Nat.left_eq_add, Nat.reduceEqDiff, q10, q_ne, true_or, or_true, n0, e0, show 258 < 1000000 by omega, Z.wI (show 257 ≤ 258 by omega) (by omega), Z.wJ (show 257 ≤ 258 by omega) (by omega), r1, kk1, ← hp1, n1, e1, show 260 < 1000000 by omega, Z.wI (show 257 ≤ 260 by omega) (by omega), Z.wJ (show 257 ≤ 260 by omega) (by omega), r2, kk2, ← hp2, n2, e2, show 262 < 1000000 by omega, Z.wI (show 257 ≤ 262 by omega) (by omega), Z.wJ (show 257 ≤ 262 by omega) (by omega), r3, kk3, ← hp3, n3, e3, show 264 < 1000000 by omega, Z.wI (show 257 ≤ 264 by omega) (by omega), Z.wJ (show 257 ≤ 264 by omega) (by omega), r4, kk4, ← hp4, n4, e4, show 266 < 1000000 by omega, Z.wI (show 257 ≤ 266 by omega) (by omega), Z.wJ (show 257 ≤ 266 by omega) (by omega), r5, kk5, ← hp5, n5, e5, show 268 < 1000000 by omega, Z.wI (show 257 ≤ 268 by omega) (by omega), Z.wJ (show 257 ≤ 268 by omega) (by omega), r6, kk6, ← hp6]
end
