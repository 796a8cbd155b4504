/-! THE LAW: the sky -/
/-- what is made: at most m things, all that lay there lies there -/
def Gw (m : Nat) (g g2 : hf_G) : Prop := hf_n g2 ≤ hf_n g + m ∧ hf_c g2 ≤ hf_c g + m ∧ hf_s g2 ≤ hf_s g + 64 * m ∧ hf_e g2 = true ∧ Ex g g2
def kG (g : hf_G) (I I2 : hf_I) (J J2 : hf_J) : Prop := ∀ a, 270 ≤ a → a < hf_n g ∨ 1000000 ≤ a → I2 a = I a ∧ J2 a = J a
/-- a check of the law that says yes, with what it made -/
def Ly (σ : Sg) (m : Nat) (g : hf_G) (I : hf_I) (J : hf_J) (r : Option hf_R) : Prop := ∃ g2 I2 J2, r = some (.inl (some (.int 1)), g2, I2, J2) ∧ Gw m g g2 ∧ Lay g2 ∧ RC σ I2 J2 ∧ kG g I I2 J J2
section
variable {σ : Sg} {g g1 g2 : hf_G} {I I1 I2 : hf_I} {J J1 J2 : hf_J} {s k a b c d n m l t q h p e o P z N la : Nat} {i j y x8 x12 : Int32} {l2 l3 l6 l7 l8 l9 l10 l11 l12 l13 l14 : Option Value}
theorem Gw.tg (he : hf_e g = true) (hn : hf_n g + k ≤ 1000000) (hk : k ≤ m) : Gw m g (tg k g) := by
  refine ⟨by rw [tg_n k hn]; omega, by rw [tg_c]; omega, by rw [tg_ss]; omega, tg_e he k hn, by rw [tg_n k hn]; omega, fun a _ => ?_⟩
  rw [tg_k, tg_r]
  exact ⟨rfl, rfl⟩
theorem Gw.tr (h : Gw m g g1) (h2 : Gw n g1 g2) : Gw (m + n) g g2 := by
  obtain ⟨a1, a2, a3, a4, a5⟩ := h
  obtain ⟨b1, b2, b3, b4, b5⟩ := h2
  exact ⟨by omega, by omega, by omega, b4, a5.t b5⟩
theorem Gw.le (h : Gw m g g1) (hm : m ≤ n) : Gw n g g1 := ⟨by have := h.1; omega, by have := h.2.1; omega, by have := h.2.2.1; omega, h.2.2.2⟩
theorem Gw.mk {kd : Nat × Nat} (he : hf_e g = true) (hn : hf_n g < 1000000) (hk : k ≤ 64) : Gw 1 g (hf_mk g kd k) := ⟨Nat.le_refl _, Nat.le_refl _, by show hf_s g + k ≤ _; omega, he, ex_mk hn⟩
theorem Lw.yy {r : Option hf_R} (h : Lw σ m g I J r) (hL : Lay g) (he : hf_e g = true) (hn : hf_n g + m < 1000000) : Ly σ m g I J r := by
  obtain ⟨k, I2, J2, h1, h2, h3, h4⟩ := h
  exact ⟨tg k g, I2, J2, h2, Gw.tg he (by omega) h1, hL.tg (by omega), h3, fun a ha _ => h4 a ha⟩
theorem kC.G (h : kC I I2 J J2) : kG g I I2 J J2 := fun a ha _ => h a ha
theorem kG.tr (h : kG g I I1 J J1) (h2 : kG g1 I1 I2 J1 J2) (hn : hf_n g ≤ hf_n g1) : kG g I I2 J J2 := fun a ha hb => by
  obtain ⟨x1, x2⟩ := h a ha hb
  obtain ⟨y1, y2⟩ := h2 a ha (by omega)
  exact ⟨y1.trans x1, y2.trans x2⟩
theorem kG.r : kG g I I J J := fun _ _ _ => ⟨rfl, rfl⟩
def fA (σ : Sg) (j : Nat) : Nat := (skA σ).2.2.1 j
def pA (σ : Sg) (j : Nat) : Nat := (skA σ).2.2.2.2.1 j
def sA (σ : Sg) (j : Nat) : Nat := if spA σ j = true then 1 else 0
/-- three rows at N hold what was told so far -/
def Arr (σ : Sg) (N k : Nat) (I : hf_I) : Prop := ∀ j, j < k → I N j = nI (fA σ j) ∧ I (N + 1) j = nI (pA σ j) ∧ I (N + 2) j = nI (sA σ j)
theorem far_b (hσ : SOK σ) (hj : k < (skA σ).1) : fA σ k ≤ 2896 ∧ pA σ k < 8 ∧ sA σ k ≤ 1 := by
  obtain ⟨-, h⟩ := skA_I hσ
  obtain ⟨-, -, -, h1, h2⟩ := h k hj
  exact ⟨h2, h1, by unfold sA; split <;> omega⟩
theorem sk_in (hσ : SOK σ) (hk : k < (skA σ).1) (h64 : (skA σ).1 ≤ 64) (k0 : hf_k g N = (2, 64)) (k1 : hf_k g (N + 1) = (2, 64)) (k2 : hf_k g (N + 2) = (2, 64)) (hA : Arr σ N (k + 1) I) :
    ∀ (d n : Nat) (l14 : Option Value), n + d = k → ∃ l14' : Option Value, hf_rn 178 284 [some (.ref 0), some (.ref 270), l2, some (.int (nI (sq σ 14))), l6, some (.ref N), some (.ref (N + 1)), some (.ref (N + 2)), some (.int x8), some (.int 1), l10, some (.int (nI k)), some (.int x12), some (.int (nI n)), l14] [] g I J = hf_rn 178 383 [some (.ref 0), some (.ref 270), l2, some (.int (nI (sq σ 14))), l6, some (.ref N), some (.ref (N + 1)), some (.ref (N + 2)), some (.int x8), some (.int 1), l10, some (.int (nI k)), some (.int x12), some (.int (nI k)), l14'] [] g I J := by
  have hfb := (sok_sky hσ).2.2.2.2
  obtain ⟨b1, b2, b3⟩ := far_b hσ hk
  obtain ⟨a1, a2, a3⟩ := hA k (Nat.lt_succ_self _)
  have hin : hf_in (nI k) 64 = true := by rw [z_in (by omega)]; exact decide_eq_true (by omega)
  have hcl : (nI k).toNatClampNeg = k := nI_clamp (by omega)
  intro d
  induction d with
  | zero =>
    intro n l14 hn
    have e : n = k := by omega
    subst e
    refine ⟨l14, ?_⟩
    simp only [s178_284, s178_286, s178_288, hf_bd_v, hf_bd_n, hf_iv_i, hf_iv_l, hf_iv_a, hf_iv_n, hf_iv_2, z_lgl, z_lgg, z_lge, z_lgle, z_lgz, Option.getD_some, Option.isSome_some, ↓reduceIte, not_true_eq_false, not_false_eq_true, Option.toList_some, Option.toList_none, List.cons_append, List.nil_append, Nat.reduceAdd, Nat.add_assoc, ku_ne, ku_same, ne_eq, Nat.reduceEqDiff, reduceCtorEq, Nat.add_eq_left, Nat.left_eq_add, Nat.reduceEqDiff, q10, q_ne, true_or, or_true, z_ii (show n < 2147483648 by omega) (show n < 2147483648 by omega), Nat.le_refl]
  | succ d ih =>
    intro n l14 hn
    have hk2 : ¬ k ≤ n := by omega
    obtain ⟨c1, c2, c3⟩ := far_b hσ (show n < (skA σ).1 by omega)
    obtain ⟨d1, d2, d3⟩ := hA n (by omega)
    have hin2 : hf_in (nI n) 64 = true := by rw [z_in (by omega)]; exact decide_eq_true (by omega)
    have hcl2 : (nI n).toNatClampNeg = n := nI_clamp (by omega)
    obtain ⟨by', hby⟩ : ∃ x, x = (if fA σ k ≤ fA σ n then fA σ n - fA σ k else fA σ k - fA σ n) := ⟨_, rfl⟩
    obtain ⟨w, hw⟩ := ih (n + 1) (some (.int (nI by'))) (by omega)
    refine ⟨w, ?_⟩
    rw [← hw]
    have hs2 : (nI (sA σ n + sA σ k) < 2) = (sA σ n + sA σ k < 2) := by rw [show (2 : Int32) = nI 2 from rfl]; exact z_il (by omega) (by decide)
    have hpp : (nI (pA σ n) = nI (pA σ k)) = (pA σ n = pA σ k) := z_ie (by omega) (by omega)
    have hfl : (nI (fA σ k) ≤ nI (fA σ n)) = (fA σ k ≤ fA σ n) := z_ii (by omega) (by omega)
    have hbl : by' ≤ 2896 := by rw [hby]; split <;> omega
    have hlt : (nI by' < nI (sq σ 14)) = (by' < sq σ 14) := z_il (by omega) (by omega)
    have hend : hf_rn 178 336 [some (.ref 0), some (.ref 270), l2, some (.int (nI (sq σ 14))), l6, some (.ref N), some (.ref (N + 1)), some (.ref (N + 2)), some (.int x8), some (.int 1), l10, some (.int (nI k)), some (.int x12), some (.int (nI n)), some (.int (nI by'))] [] g I J = hf_rn 178 284 [some (.ref 0), some (.ref 270), l2, some (.int (nI (sq σ 14))), l6, some (.ref N), some (.ref (N + 1)), some (.ref (N + 2)), some (.int x8), some (.int 1), l10, some (.int (nI k)), some (.int x12), some (.int (nI (n + 1))), some (.int (nI by'))] [] g I J := by
      by_cases u1 : sA σ n + sA σ k < 2
      · simp only [s178_336, s178_338, s178_340, s178_341, s178_343, s178_345, s178_346, s178_347, s178_348, s178_351, s178_353, s178_355, s178_356, s178_358, s178_360, s178_361, s178_364, s178_366, s178_367, s178_370, s178_371, s178_374, s178_375, s178_377, hf_bd_v, hf_bd_n, hf_iv_i, hf_iv_l, hf_iv_a, hf_iv_n, hf_iv_2, z_lgl, z_lgg, z_lge, z_lgle, z_lgz, Option.getD_some, Option.isSome_some, ↓reduceIte, not_true_eq_false, not_false_eq_true, Option.toList_some, Option.toList_none, List.cons_append, List.nil_append, Nat.reduceAdd, Nat.add_assoc, ku_ne, ku_same, ne_eq, Nat.reduceEqDiff, reduceCtorEq, Nat.add_eq_left, Nat.left_eq_add, Nat.reduceEqDiff, q10, q_ne, true_or, or_true, k0, k1, k2, hin, hcl, hin2, hcl2, a1, a2, a3, d1, d2, d3, nI_add (sA σ n) (sA σ k), hs2, u1, z_1]
        rw [s178_380]
      · by_cases u2 : pA σ n = pA σ k
        · have h1 : spA σ n = true := by
            cases e : spA σ n
            · unfold sA at u1; rw [e] at u1; simp at u1; split at u1 <;> omega
            · rfl
          have h2 : spA σ k = true := by
            cases e : spA σ k
            · unfold sA at u1; rw [e] at u1; simp at u1; split at u1 <;> omega
            · rfl
          have h3 := (sp_far hσ (show n < (skA σ).1 by omega) hk (by omega) h1 h2).resolve_left (fun v => v u2)
          have u3 : ¬ by' < sq σ 14 := by
            rw [hby]
            exact Nat.not_lt.mpr h3
          simp only [s178_336, s178_338, s178_340, s178_341, s178_343, s178_345, s178_346, s178_347, s178_348, s178_351, s178_353, s178_355, s178_356, s178_358, s178_360, s178_361, s178_364, s178_366, s178_367, s178_370, s178_371, s178_374, s178_375, s178_377, hf_bd_v, hf_bd_n, hf_iv_i, hf_iv_l, hf_iv_a, hf_iv_n, hf_iv_2, z_lgl, z_lgg, z_lge, z_lgle, z_lgz, Option.getD_some, Option.isSome_some, ↓reduceIte, not_true_eq_false, not_false_eq_true, Option.toList_some, Option.toList_none, List.cons_append, List.nil_append, Nat.reduceAdd, Nat.add_assoc, ku_ne, ku_same, ne_eq, Nat.reduceEqDiff, reduceCtorEq, Nat.add_eq_left, Nat.left_eq_add, Nat.reduceEqDiff, q10, q_ne, true_or, or_true, k0, k1, k2, hin, hcl, hin2, hcl2, a1, a2, a3, d1, d2, d3, nI_add (sA σ n) (sA σ k), hs2, u1, hpp, u2, hlt, u3, z_1]
          rw [s178_380]
        · simp only [s178_336, s178_338, s178_340, s178_341, s178_343, s178_345, s178_346, s178_347, s178_348, s178_351, s178_353, s178_355, s178_356, s178_358, s178_360, s178_361, s178_364, s178_366, s178_367, s178_370, s178_371, s178_374, s178_375, s178_377, hf_bd_v, hf_bd_n, hf_iv_i, hf_iv_l, hf_iv_a, hf_iv_n, hf_iv_2, z_lgl, z_lgg, z_lge, z_lgle, z_lgz, Option.getD_some, Option.isSome_some, ↓reduceIte, not_true_eq_false, not_false_eq_true, Option.toList_some, Option.toList_none, List.cons_append, List.nil_append, Nat.reduceAdd, Nat.add_assoc, ku_ne, ku_same, ne_eq, Nat.reduceEqDiff, reduceCtorEq, Nat.add_eq_left, Nat.left_eq_add, Nat.reduceEqDiff, q10, q_ne, true_or, or_true, k0, k1, k2, hin, hcl, hin2, hcl2, a1, a2, a3, d1, d2, d3, nI_add (sA σ n) (sA σ k), hs2, u1, hpp, u2, z_1]
          rw [s178_380]
    rw [← hend]
    by_cases u : fA σ k ≤ fA σ n
    · have e : nI (fA σ n) - nI (fA σ k) = nI by' := by rw [nI_sb u, hby, if_pos u]
      simp only [s178_284, s178_286, s178_288, s178_291, s178_293, s178_296, s178_298, s178_300, s178_301, s178_303, s178_305, s178_306, s178_309, s178_311, s178_313, s178_314, s178_316, s178_318, s178_319, s178_320, s178_323, s178_325, s178_327, s178_328, s178_330, s178_332, s178_333, s178_334, hf_bd_v, hf_bd_n, hf_iv_i, hf_iv_l, hf_iv_a, hf_iv_n, hf_iv_2, z_lgl, z_lgg, z_lge, z_lgle, z_lgz, Option.getD_some, Option.isSome_some, ↓reduceIte, not_true_eq_false, not_false_eq_true, Option.toList_some, Option.toList_none, List.cons_append, List.nil_append, Nat.reduceAdd, Nat.add_assoc, ku_ne, ku_same, ne_eq, Nat.reduceEqDiff, reduceCtorEq, Nat.add_eq_left, Nat.left_eq_add, Nat.reduceEqDiff, q10, q_ne, true_or, or_true, z_ii (show k < 2147483648 by omega) (show n < 2147483648 by omega), hk2, k0, hin, hcl, hin2, hcl2, a1, d1, hfl, u, e]
    · have e : nI (fA σ k) - nI (fA σ n) = nI by' := by rw [nI_sb (by omega), hby, if_neg u]
      simp only [s178_284, s178_286, s178_288, s178_291, s178_293, s178_296, s178_298, s178_300, s178_301, s178_303, s178_305, s178_306, s178_309, s178_311, s178_313, s178_314, s178_316, s178_318, s178_319, s178_320, s178_323, s178_325, s178_327, s178_328, s178_330, s178_332, s178_333, s178_334, hf_bd_v, hf_bd_n, hf_iv_i, hf_iv_l, hf_iv_a, hf_iv_n, hf_iv_2, z_lgl, z_lgg, z_lge, z_lgle, z_lgz, Option.getD_some, Option.isSome_some, ↓reduceIte, not_true_eq_false, not_false_eq_true, Option.toList_some, Option.toList_none, List.cons_append, List.nil_append, Nat.reduceAdd, Nat.add_assoc, ku_ne, ku_same, ne_eq, Nat.reduceEqDiff, reduceCtorEq, Nat.add_eq_left, Nat.left_eq_add, Nat.reduceEqDiff, q10, q_ne, true_or, or_true, z_ii (show k < 2147483648 by omega) (show n < 2147483648 by omega), hk2, k0, hin, hcl, hin2, hcl2, a1, d1, hfl, u, e]
/-- one that is seen behind another -/
theorem sk_out (hσ : SOK σ) (hL : Lay g) (hgk : hf_k g 270 = (2, 4)) (hP2 : I 270 2 = nI (sP σ)) (h64 : (skA σ).1 ≤ 64) (hN0 : 270 < N) (k0 : hf_k g N = (2, 64)) (k1 : hf_k g (N + 1) = (2, 64)) (k2 : hf_k g (N + 2) = (2, 64)) :
    ∀ (d k : Nat) (I1 : hf_I) (J1 : hf_J) (la : Nat) (l12 l13 l14 : Option Value), k + d = (skA σ).1 → RC σ I1 J1 → (∀ a, 270 ≤ a → a < N ∨ N + 2 < a → I1 a = I a ∧ J1 a = J a) → Arr σ N k I1 → la < 10000 → (k < (skA σ).1 → ordN la ((skA σ).2.1 k)) →
      ∃ I2 J2, hf_rn 178 93 [some (.ref 0), some (.ref 270), some (.int (nI (sq σ 13))), some (.int (nI (sq σ 14))), some (.int (nI (sq σ 12))), some (.ref N), some (.ref (N + 1)), some (.ref (N + 2)), some (.int (nI (skA σ).1)), some (.int 1), some (.int (nI la)), some (.int (nI k)), l12, l13, l14] [] g I1 J1 = some (.inl (some (.int 1)), g, I2, J2) ∧ RC σ I2 J2 ∧ ∀ a, 270 ≤ a → a < N ∨ N + 2 < a → I2 a = I a ∧ J2 a = J a := by
  have hP := sok_P hσ
  have hsk := sok_sky hσ
  intro d
  induction d with
  | zero =>
    intro k I1 J1 la l12 l13 l14 hk hC hf hA hla ho
    have e : k = (skA σ).1 := by omega
    subst e
    refine ⟨I1, J1, ?_, hC, hf⟩
    simp only [s178_93, s178_95, s178_97, s178_389, s178_391, hf_bd_v, hf_bd_n, hf_iv_i, hf_iv_l, hf_iv_a, hf_iv_n, hf_iv_2, z_lgl, z_lgg, z_lge, z_lgle, z_lgz, Option.getD_some, Option.isSome_some, ↓reduceIte, not_true_eq_false, not_false_eq_true, Option.toList_some, Option.toList_none, List.cons_append, List.nil_append, Nat.reduceAdd, Nat.add_assoc, ku_ne, ku_same, ne_eq, Nat.reduceEqDiff, reduceCtorEq, Nat.add_eq_left, Nat.left_eq_add, Nat.reduceEqDiff, q10, q_ne, true_or, or_true, z_ii (show (skA σ).1 < 2147483648 by omega) (show (skA σ).1 < 2147483648 by omega), Nat.le_refl]
  | succ d ih =>
    intro k I1 J1 la l12 l13 l14 hk hC hf hA hla ho
    have hkn : k < (skA σ).1 := by omega
    have hk2 : ¬ (skA σ).1 ≤ k := by omega
    have hx := lay_hx hL
    have hin : hf_in (nI k) 64 = true := by rw [z_in (by omega)]; exact decide_eq_true (by omega)
    have hcl : (nI k).toNatClampNeg = k := nI_clamp (by omega)
    obtain ⟨b1, b2, b3⟩ := far_b hσ hkn
    obtain ⟨p, q, u1, u2, ⟨v1, v2, v3, v4⟩⟩ := (sky_ok hσ).2.1 k hkn
    have hqc := sok_C hσ u1
    -- what the calls answer
    obtain ⟨I3, J3, a1, a2, a3⟩ := k_sky (m := 0) hσ hL hC hkn (Or.inl rfl)
    obtain ⟨I4, J4, c1, c2, c3⟩ := k_sky (m := 1) hσ hL a2 hkn (Or.inr (Or.inl rfl))
    have hC4 : RC σ (hf_u I4 N k (nI (fA σ k))) J4 := RC_u hσ c2 (by omega)
    obtain ⟨I5, J5, d1, d2, d3⟩ := k_sky (m := 3) hσ hL hC4 hkn (Or.inr (Or.inr rfl))
    have hC5 : RC σ (hf_u I5 (N + 1) k (nI (pA σ k))) J5 := RC_u hσ d2 (by omega)
    obtain ⟨I6, J6, e1, e2, e3⟩ := k_sky4 hσ hL hC5 hkn
    have hC6 : RC σ (hf_u I6 (N + 2) k (nI (sA σ k))) J6 := RC_u hσ e2 (by omega)
    have a4 := w_sky hx a1
    have c4 := w_sky hx c1
    have d4 := w_sky hx d1
    have e4 := w_sky hx e1
    have x0 : skW σ k 0 = 100 * p + q := (if_pos rfl).trans v1
    have x1 : skW σ k 1 = fA σ k := (if_neg (by decide)).trans (if_pos rfl)
    have x3 : skW σ k 3 = pA σ k := (if_neg (by decide)).trans ((if_neg (by decide)).trans (if_pos rfl))
    have x4 : skW σ k 4 = sA σ k := (if_neg (by decide)).trans ((if_neg (by decide)).trans (if_neg (by decide)))
    rw [z_n0, x0] at a4
    rw [z_n1, x1] at c4
    rw [z_n3, x3] at d4
    rw [x4] at e4
    obtain ⟨f1, f2, f3⟩ := z_100 (a := p) (b := q) (by omega) (by omega)
    have g2 := w_galaxy hx (k_galaxy (m := 2) hσ hL hC6 u1 u2 (by decide))
    rw [z_n2] at g2
    have hst : 0 < stR σ p q ∧ seZ (sq σ 12) (sq σ 13) (sP σ - 1 - p) (xS σ p q) (yS σ p q) = true := by
      unfold skB at v4
      rw [Bool.and_eq_true, decide_eq_true_eq] at v4
      exact v4
    have hst6 := stR_le hσ (show p < 12 by omega) (show q < 64 by omega)
    have hsz : fA σ k / sq σ 12 = sP σ - 1 - p ∧ ¬ sq σ 13 / 2 ^ pA σ k % 2 = 1 := by
      have h := hst.2
      unfold seZ at h
      rw [Bool.and_eq_true, decide_eq_true_eq, Bool.not_eq_true', decide_eq_false_iff_not, ← v2, ← v3] at h
      exact h
    -- the rows
    have r0 : ∀ j, hf_u I6 (N + 2) k (nI (sA σ k)) N j = if j = k then nI (fA σ k) else I1 N j := fun j => by
      rw [ku_ne (by omega), e3.ii (by omega), ku_ne (by omega), d3.ii (by omega), ku_row, c3.ii (by omega), a3.ii (by omega)]
    have r1 : ∀ j, hf_u I6 (N + 2) k (nI (sA σ k)) (N + 1) j = if j = k then nI (pA σ k) else I1 (N + 1) j := fun j => by
      rw [ku_ne (by omega), e3.ii (by omega), ku_row, d3.ii (by omega), ku_ne (by omega), c3.ii (by omega), a3.ii (by omega)]
    have r2 : ∀ j, hf_u I6 (N + 2) k (nI (sA σ k)) (N + 2) j = if j = k then nI (sA σ k) else I1 (N + 2) j := fun j => by
      rw [ku_row, e3.ii (by omega), ku_ne (by omega), d3.ii (by omega), ku_ne (by omega), c3.ii (by omega), a3.ii (by omega)]
    obtain ⟨I7, hI7⟩ : ∃ I7, I7 = hf_u I6 (N + 2) k (nI (sA σ k)) := ⟨_, rfl⟩
    rw [← hI7] at r0 r1 r2 g2 hC6
    have hA2 : Arr σ N (k + 1) I7 := fun j hj => by
      rw [r0, r1, r2]
      by_cases e : j = k
      · subst e
        rw [if_pos rfl, if_pos rfl, if_pos rfl]
        exact ⟨rfl, rfl, rfl⟩
      · rw [if_neg e, if_neg e, if_neg e]
        exact hA j (by omega)
    have hf2 : ∀ a, 270 ≤ a → a < N ∨ N + 2 < a → I7 a = I a ∧ J6 a = J a := fun a ha hb => by
      obtain ⟨y1, y2⟩ := hf a ha hb
      refine ⟨?_, ?_⟩
      · rw [hI7, ku_ne (by omega), e3.ii ha, ku_ne (by omega), d3.ii ha, ku_ne (by omega), c3.ii ha, a3.ii ha]
        exact y1
      · rw [e3.jj ha, d3.jj ha, c3.jj ha, a3.jj ha]
        exact y2
    have s0 : I7 N k = nI (fA σ k) := by rw [r0, if_pos rfl]
    have s1 : I7 (N + 1) k = nI (pA σ k) := by rw [r1, if_pos rfl]
    have s2 : I7 (N + 2) k = nI (sA σ k) := by rw [r2, if_pos rfl]
    have hG2 : I7 270 2 = nI (sP σ) := by rw [(hf2 270 (by decide) (Or.inl hN0)).1]; exact hP2
    -- what is asked
    have ho2 := ho hkn
    rw [v1] at ho2
    have hla2 : nI la / 100 = nI (la / 100) := by rw [show (100 : Int32) = nI 100 from rfl]; exact nI_dv (by omega) (by decide)
    have t1 : (nI (la / 100) < nI p) = False := by rw [z_il (by omega) (by omega)]; exact eq_false (by have := ho2.1; omega)
    have t2 : (nI p < nI (la / 100)) = (p < la / 100) := z_il (by omega) (by omega)
    have t3 : (nI (100 * p + q) ≤ nI la) = (100 * p + q ≤ la) := z_ii (by omega) (by omega)
    have t4 : (nI ((vaS σ).2.2 (64 * p + q) 2) ≤ 0) = False := by
      have h1 : (vaS σ).2.2 (64 * p + q) 2 = stR σ p q := rfl
      rw [h1, show (0 : Int32) = nI 0 from rfl, z_ii (by omega) (by decide)]
      exact eq_false (by omega)
    have t5 : nI (fA σ k) / nI (sq σ 12) = nI (sP σ - 1 - p) := by rw [nI_dv (by omega) (by omega), hsz.1]
    have t6 : nI (sP σ) - 1 - nI p = nI (sP σ - 1 - p) := by rw [show (1 : Int32) = nI 1 from rfl, nI_sb (by omega), nI_sb (by omega)]
    have t7 : (8 ≤ nI (pA σ k)) = False := by rw [show (8 : Int32) = nI 8 from rfl, z_ii (by decide) (by omega)]; exact eq_false (by omega)
    have t8 : nI (sq σ 13) >>> (nI (pA σ k) &&& 31) &&& 1 = 0 := by
      have h1 := mskI (sq σ 13) (by omega) (pA σ k) b2
      rw [decide_eq_false hsz.2, Bool.not_false] at h1
      exact of_decide_eq_true h1
    have hdp : ¬ nI (sq σ 12) = 0 := fun hz => by
      rw [show (0 : Int32) = nI 0 from rfl, z_ie (by omega) (by decide)] at hz
      omega
    have hsp : (nI (sA σ k) = 0) = True ∨ ((nI (sA σ k) = 0) = False ∧ (nI (sA σ k) = 1) = True) := by
      have : sA σ k = 0 ∨ sA σ k = 1 := by omega
      rcases this with h | h
      · left; rw [h]; exact eq_true rfl
      · right; rw [h]; exact ⟨eq_false (by decide), eq_true rfl⟩
    obtain ⟨w, hw⟩ := sk_in (g := g) (I := I7) (J := J6) (N := N) (k := k) (l2 := some (.int (nI (sq σ 13)))) (l6 := some (.int (nI (sq σ 12)))) (x8 := nI (skA σ).1) (l10 := some (.int (nI (100 * p + q)))) (x12 := nI (100 * p + q)) hσ hkn h64 k0 k1 k2 hA2 k 0 l14 (by omega)
    rw [z_n0] at hw
    have fin : ∃ I2 J2, hf_rn 178 183 [some (.ref 0), some (.ref 270), some (.int (nI (sq σ 13))), some (.int (nI (sq σ 14))), some (.int (nI (sq σ 12))), some (.ref N), some (.ref (N + 1)), some (.ref (N + 2)), some (.int (nI (skA σ).1)), some (.int 1), some (.int (nI la)), some (.int (nI k)), some (.int (nI (100 * p + q))), l13, l14] [] g I7 J6 = some (.inl (some (.int 1)), g, I2, J2) ∧ RC σ I2 J2 ∧ ∀ a, 270 ≤ a → a < N ∨ N + 2 < a → I2 a = I a ∧ J2 a = J a := by
      obtain ⟨I2, J2, z1, z2, z3⟩ := ih (k + 1) I7 J6 (100 * p + q) (some (.int (nI (100 * p + q)))) (some (.int (nI k))) w (by omega) hC6 hf2 hA2 (by omega) (fun h => by
        have := (sky_ok hσ).2.2 k h
        rw [v1] at this
        exact this)
      refine ⟨I2, J2, ?_, z2, z3⟩
      rw [← z1]
      rcases hsp with h | ⟨h, h2⟩
      · simp only [s178_183, s178_184, s178_186, s178_188, s178_189, s178_191, s178_193, s178_194, s178_195, s178_198, s178_201, s178_203, s178_205, s178_206, s178_208, s178_209, s178_210, s178_211, s178_212, s178_213, s178_214, s178_216, s178_218, s178_219, s178_220, s178_223, s178_225, s178_227, s178_228, s178_231, s178_233, s178_235, s178_236, s178_238, s178_241, s178_242, s178_244, s178_246, s178_247, s178_248, s178_249, s178_250, s178_253, s178_255, s178_257, s178_258, s178_261, s178_263, s178_265, s178_266, s178_267, s178_270, s178_271, s178_274, s178_275, s178_277, s178_279, s178_281, s178_282, hf_bd_v, hf_bd_n, hf_iv_i, hf_iv_l, hf_iv_a, hf_iv_n, hf_iv_2, z_lgl, z_lgg, z_lge, z_lgle, z_lgz, Option.getD_some, Option.isSome_some, ↓reduceIte, not_true_eq_false, not_false_eq_true, Option.toList_some, Option.toList_none, List.cons_append, List.nil_append, Nat.reduceAdd, Nat.add_assoc, ku_ne, ku_same, ne_eq, Nat.reduceEqDiff, reduceCtorEq, Nat.add_eq_left, Nat.left_eq_add, Nat.reduceEqDiff, q10, q_ne, true_or, or_true, show ¬ (100 : Int32) = 0 by decide, f1, f2, g2, t4, k0, k1, k2, hin, hcl, s0, s1, s2, hdp, t5, hgk, z_42, z_c2, hG2, t6, z_i0 (show pA σ k < 2147483648 by omega), t7, t8, h]
        rw [hw]
        simp only [s178_383, hf_bd_v, hf_bd_n, hf_iv_i, hf_iv_l, hf_iv_a, hf_iv_n, hf_iv_2, z_lgl, z_lgg, z_lge, z_lgle, z_lgz, Option.getD_some, Option.isSome_some, ↓reduceIte, not_true_eq_false, not_false_eq_true, Option.toList_some, Option.toList_none, List.cons_append, List.nil_append, Nat.reduceAdd, Nat.add_assoc, ku_ne, ku_same, ne_eq, Nat.reduceEqDiff, reduceCtorEq, Nat.add_eq_left, Nat.left_eq_add, Nat.reduceEqDiff, q10, q_ne, true_or, or_true, z_1]
        rw [s178_386]
      · simp only [s178_183, s178_184, s178_186, s178_188, s178_189, s178_191, s178_193, s178_194, s178_195, s178_198, s178_201, s178_203, s178_205, s178_206, s178_208, s178_209, s178_210, s178_211, s178_212, s178_213, s178_214, s178_216, s178_218, s178_219, s178_220, s178_223, s178_225, s178_227, s178_228, s178_231, s178_233, s178_235, s178_236, s178_238, s178_241, s178_242, s178_244, s178_246, s178_247, s178_248, s178_249, s178_250, s178_253, s178_255, s178_257, s178_258, s178_261, s178_263, s178_265, s178_266, s178_267, s178_270, s178_271, s178_274, s178_275, s178_277, s178_279, s178_281, s178_282, hf_bd_v, hf_bd_n, hf_iv_i, hf_iv_l, hf_iv_a, hf_iv_n, hf_iv_2, z_lgl, z_lgg, z_lge, z_lgle, z_lgz, Option.getD_some, Option.isSome_some, ↓reduceIte, not_true_eq_false, not_false_eq_true, Option.toList_some, Option.toList_none, List.cons_append, List.nil_append, Nat.reduceAdd, Nat.add_assoc, ku_ne, ku_same, ne_eq, Nat.reduceEqDiff, reduceCtorEq, Nat.add_eq_left, Nat.left_eq_add, Nat.reduceEqDiff, q10, q_ne, true_or, or_true, show ¬ (100 : Int32) = 0 by decide, f1, f2, g2, t4, k0, k1, k2, hin, hcl, s0, s1, s2, hdp, t5, hgk, z_42, z_c2, hG2, t6, z_i0 (show pA σ k < 2147483648 by omega), t7, t8, h, h2]
        rw [hw]
        simp only [s178_383, hf_bd_v, hf_bd_n, hf_iv_i, hf_iv_l, hf_iv_a, hf_iv_n, hf_iv_2, z_lgl, z_lgg, z_lge, z_lgle, z_lgz, Option.getD_some, Option.isSome_some, ↓reduceIte, not_true_eq_false, not_false_eq_true, Option.toList_some, Option.toList_none, List.cons_append, List.nil_append, Nat.reduceAdd, Nat.add_assoc, ku_ne, ku_same, ne_eq, Nat.reduceEqDiff, reduceCtorEq, Nat.add_eq_left, Nat.left_eq_add, Nat.reduceEqDiff, q10, q_ne, true_or, or_true, z_1]
        rw [s178_386]
    obtain ⟨I2, J2, z1, z2, z3⟩ := fin
    refine ⟨I2, J2, ?_, z2, z3⟩
    rw [← z1]
    by_cases u : p < la / 100
    · simp only [s178_93, s178_95, s178_97, s178_100, s178_102, s178_105, s178_106, s178_108, s178_109, s178_112, s178_114, s178_116, s178_118, s178_119, s178_121, s178_122, s178_125, s178_126, s178_128, s178_130, s178_131, s178_133, s178_134, s178_137, s178_138, s178_140, s178_142, s178_143, s178_145, s178_146, s178_149, s178_150, s178_152, s178_154, s178_155, s178_157, s178_159, s178_160, s178_163, s178_165, s178_167, s178_168, s178_170, s178_172, s178_173, s178_176, s178_178, s178_180, hf_bd_v, hf_bd_n, hf_iv_i, hf_iv_l, hf_iv_a, hf_iv_n, hf_iv_2, z_lgl, z_lgg, z_lge, z_lgle, z_lgz, Option.getD_some, Option.isSome_some, ↓reduceIte, not_true_eq_false, not_false_eq_true, Option.toList_some, Option.toList_none, List.cons_append, List.nil_append, Nat.reduceAdd, Nat.add_assoc, ku_ne, ku_same, ne_eq, Nat.reduceEqDiff, reduceCtorEq, Nat.add_eq_left, Nat.left_eq_add, Nat.reduceEqDiff, q10, q_ne, true_or, or_true, z_ii (show (skA σ).1 < 2147483648 by omega) (show k < 2147483648 by omega), hk2, a4, k0, k1, k2, hin, hcl, c4, d4, e4, ← hI7, show ¬ (100 : Int32) = 0 by decide, f1, hla2, t1, t2, u]
    · have u2 : ¬ 100 * p + q ≤ la := by have := ho2.2; omega
      simp only [s178_93, s178_95, s178_97, s178_100, s178_102, s178_105, s178_106, s178_108, s178_109, s178_112, s178_114, s178_116, s178_118, s178_119, s178_121, s178_122, s178_125, s178_126, s178_128, s178_130, s178_131, s178_133, s178_134, s178_137, s178_138, s178_140, s178_142, s178_143, s178_145, s178_146, s178_149, s178_150, s178_152, s178_154, s178_155, s178_157, s178_159, s178_160, s178_163, s178_165, s178_167, s178_168, s178_170, s178_172, s178_173, s178_176, s178_178, s178_180, hf_bd_v, hf_bd_n, hf_iv_i, hf_iv_l, hf_iv_a, hf_iv_n, hf_iv_2, z_lgl, z_lgg, z_lge, z_lgle, z_lgz, Option.getD_some, Option.isSome_some, ↓reduceIte, not_true_eq_false, not_false_eq_true, Option.toList_some, Option.toList_none, List.cons_append, List.nil_append, Nat.reduceAdd, Nat.add_assoc, ku_ne, ku_same, ne_eq, Nat.reduceEqDiff, reduceCtorEq, Nat.add_eq_left, Nat.left_eq_add, Nat.reduceEqDiff, q10, q_ne, true_or, or_true, z_ii (show (skA σ).1 < 2147483648 by omega) (show k < 2147483648 by omega), hk2, a4, k0, k1, k2, hin, hcl, c4, d4, e4, ← hI7, show ¬ (100 : Int32) = 0 by decide, f1, hla2, t1, t2, u, t3, u2]
theorem l_isSky (hσ : SOK σ) (hL : Lay g) (he : hf_e g = true) (hb : hf_n g + 70 < 1000000) (h273 : 273 ≤ hf_n g) (hC : RC σ I J) (hk : hf_k g 270 = (2, 4)) (h2 : I 270 2 = nI (sP σ)) (hsz : sN σ * sP σ ≤ 64) : Ly σ 6 g I J (hf_rn 178 0 [some (.ref 0), some (.ref 270), some (.int (nI (sq σ 13))), some (.int (nI (sq σ 14))), some (.int (nI (sq σ 12))), none, none, none, none, none, none, none, none, none, none] [] g I J) := by
  obtain ⟨N, n0⟩ : ∃ N, hf_n g = N := ⟨_, rfl⟩
  have hP := sok_P hσ
  obtain ⟨o1, o2, o3⟩ := sky_ok hσ
  have h64 : (skA σ).1 ≤ 64 := Nat.le_trans o1 hsz
  obtain ⟨p1, hp1⟩ : ∃ p, p = hf_mk g (2, 64) 64 := ⟨_, rfl⟩
  have n1 : hf_n p1 = N + 1 := by rw [hp1]; exact congrArg (· + 1) n0
  have e1 : hf_e p1 = true := by rw [hp1]; exact he
  obtain ⟨p2, hp2⟩ : ∃ p, p = hf_mk p1 (2, 64) 64 := ⟨_, rfl⟩
  have n2 : hf_n p2 = N + 2 := by rw [hp2]; exact congrArg (· + 1) n1
  have e2 : hf_e p2 = true := by rw [hp2]; exact e1
  obtain ⟨p3, hp3⟩ : ∃ p, p = hf_mk p2 (2, 64) 64 := ⟨_, rfl⟩
  have n3 : hf_n p3 = N + 3 := by rw [hp3]; exact congrArg (· + 1) n2
  have e3 : hf_e p3 = true := by rw [hp3]; exact e2
  have G1 : Gw 1 g p1 := by rw [hp1]; exact Gw.mk he (by omega) (by decide)
  have G2 : Gw 1 p1 p2 := by rw [hp2]; exact Gw.mk e1 (by omega) (by decide)
  have G3 : Gw 1 p2 p3 := by rw [hp3]; exact Gw.mk e2 (by omega) (by decide)
  have G123 : Gw 3 g p3 := (G1.tr G2).tr G3
  have L1 : Lay p1 := by rw [hp1]; exact hL.mk (by omega) (by omega)
  have L2 : Lay p2 := by rw [hp2]; exact L1.mk (by omega) (by omega)
  have L3 : Lay p3 := by rw [hp3]; exact L2.mk (by omega) (by omega)
  have k270 : hf_k p3 270 = (2, 4) := (G123.2.2.2.2.2 270 (Or.inl (by omega))).1.trans hk
  have k0 : hf_k p3 N = (2, 64) := by
    rw [(G3.2.2.2.2.2 N (Or.inl (by omega))).1, (G2.2.2.2.2.2 N (Or.inl (by omega))).1, hp1, ← n0]
    exact mk_k
  have k1 : hf_k p3 (N + 1) = (2, 64) := by
    rw [(G3.2.2.2.2.2 (N + 1) (Or.inl (by omega))).1, hp2, ← n1]
    exact mk_k
  have k2 : hf_k p3 (N + 2) = (2, 64) := by
    rw [hp3, ← n2]
    exact mk_k
  obtain ⟨I3, hI3⟩ : ∃ K, K = hf_w (hf_w (hf_w I N (fun _ => 0)) (N + 1) (fun _ => 0)) (N + 2) (fun _ => 0) := ⟨_, rfl⟩
  obtain ⟨J3, hJ3⟩ : ∃ K, K = hf_w (hf_w (hf_w J N (fun _ => 0)) (N + 1) (fun _ => 0)) (N + 2) (fun _ => 0) := ⟨_, rfl⟩
  have C3 : RC σ I3 J3 := by
    rw [hI3, hJ3]
    exact RC_w hσ (RC_w hσ (RC_w hσ hC (by omega)) (by omega)) (by omega)
  have F3 : ∀ a, a < N ∨ N + 2 < a → I3 a = I a ∧ J3 a = J a := fun a ha => by
    rw [hI3, hJ3, kw_ne (by omega), kw_ne (by omega), kw_ne (by omega), kw_ne (by omega), kw_ne (by omega), kw_ne (by omega)]
    exact ⟨rfl, rfl⟩
  obtain ⟨I4, J4, a1, a2, a3⟩ := k_seen hσ L3 C3
  obtain ⟨I5, J5, b1, b2, b3⟩ := k_skyX3 (i := nI (skA σ).1) (j := 0) hσ L3 a2 (fun q => by rw [z_il (by omega) (by omega)] at q; omega)
  have L4 : Lay (hf_th p3) := L3.tg (k := 1) (by omega)
  obtain ⟨I6, J6, c1, c2, c3⟩ := k_skyX3 (i := -1) (j := 0) hσ L4 b2 (fun q => absurd q.1 (by decide))
  have L5 : Lay (hf_th (hf_th p3)) := L3.tg (k := 2) (by omega)
  have b4 := w_skyX3 (lay_hx L3) b1
  have c4 := w_skyX3 (lay_hx L4) c1
  have hx3 := lay_hx L3
  have f1 : (64 < nI (skA σ).1) = False := by rw [show (64 : Int32) = nI 64 from rfl, z_il (by decide) (by omega)]; exact eq_false (by omega)
  have hord : 0 < (skA σ).1 → ordN 9999 ((skA σ).2.1 0) := fun h => by
    obtain ⟨p, q, u1, u2, ⟨v1, -⟩⟩ := o2 0 h
    have := sok_C hσ u1
    rw [v1]
    unfold ordN
    omega
  have fin : ∀ (m : Nat) (I7 : hf_I) (J7 : hf_J), m ≤ 3 → RC σ I7 J7 → (∀ a, 270 ≤ a → a < N ∨ N + 2 < a → I7 a = I a ∧ J7 a = J a) → Ly σ 6 g I J (hf_rn 178 93 [some (.ref 0), some (.ref 270), some (.int (nI (sq σ 13))), some (.int (nI (sq σ 14))), some (.int (nI (sq σ 12))), some (.ref N), some (.ref (N + 1)), some (.ref (N + 2)), some (.int (nI (skA σ).1)), some (.int 1), some (.int 9999), some (.int 0), none, none, none] [] (tg m p3) I7 J7) := by
    intro m I7 J7 hm hC7 hF7
    obtain ⟨I2, J2, z1, z2, z3⟩ := sk_out (g := tg m p3) (I := I7) (J := J7) (N := N) hσ (L3.tg (by omega)) (by rw [tg_k]; exact k270) (by rw [(hF7 270 (by decide) (Or.inl (by omega))).1]; exact h2) h64 (by omega) (by rw [tg_k]; exact k0) (by rw [tg_k]; exact k1) (by rw [tg_k]; exact k2) (skA σ).1 0 I7 J7 9999 none none none (by omega) hC7 (fun _ _ _ => ⟨rfl, rfl⟩) (fun j hj => absurd hj (by omega)) (by decide) hord
    refine ⟨tg m p3, I2, J2, z1, (G123.tr (Gw.tg (m := 3) e3 (by omega) hm)), L3.tg (by omega), z2, fun a ha hb => ?_⟩
    obtain ⟨y1, y2⟩ := z3 a ha (by omega)
    obtain ⟨x1, x2⟩ := hF7 a ha (by omega)
    exact ⟨y1.trans x1, y2.trans x2⟩
  have F6 : ∀ a, 270 ≤ a → a < N ∨ N + 2 < a → I6 a = I a ∧ J6 a = J a := fun a ha hb => by
    obtain ⟨y1, y2⟩ := F3 a hb
    exact ⟨by rw [c3.ii ha, b3.ii ha, a3.ii ha]; exact y1, by rw [c3.jj ha, b3.jj ha, a3.jj ha]; exact y2⟩
  have h64c : (64 : Int32).toNatClampNeg = 64 := by decide
  have h640 : ((64 : Int32) < 0) = False := eq_false (by decide)
  by_cases hs : (skA σ).1 = 0
  · have h0 : (nI (skA σ).1 = 0) = True := eq_true (by rw [hs]; rfl)
    have key := fin 2 I6 J6 (by decide) c2 F6
    simp only [s178_0, s178_2, s178_4, s178_6, s178_8, s178_10, s178_12, s178_14, s178_16, s178_18, s178_19, s178_22, s178_24, s178_26, s178_29, s178_31, s178_33, s178_36, s178_37, s178_39, s178_40, s178_43, s178_45, s178_48, s178_49, s178_50, s178_51, s178_54, s178_56, s178_59, s178_61, s178_64, s178_65, s178_67, s178_68, s178_69, s178_70, s178_73, s178_75, s178_78, s178_79, s178_82, s178_83, s178_85, s178_88, s178_90, s178_91, hf_bd_v, hf_bd_n, hf_iv_i, hf_iv_l, hf_iv_a, hf_iv_n, hf_iv_2, z_lgl, z_lgg, z_lge, z_lgle, z_lgz, Option.getD_some, Option.isSome_some, ↓reduceIte, not_true_eq_false, not_false_eq_true, Option.toList_some, Option.toList_none, List.cons_append, List.nil_append, Nat.reduceAdd, Nat.add_assoc, ku_ne, ku_same, ne_eq, Nat.reduceEqDiff, reduceCtorEq, Nat.add_eq_left, Nat.left_eq_add, Nat.reduceEqDiff, q10, q_ne, true_or, or_true, h64c, h640, Nat.reduceLeDiff, he, n0, show N < 1000000 by omega, ← hp1, e1, n1, show N + 1 < 1000000 by omega, ← hp2, e2, n2, show N + 2 < 1000000 by omega, ← hp3, ← hI3, ← hJ3, hx_k hx3, hx_r0 hx3, hx_r1 hx3, hx_r2 hx3, hx_r3 hx3, hx_r4 hx3, hx_r5 hx3, a1, z_i0 (show (skA σ).1 < 2147483648 by omega), f1, b4, c4, h0]
    exact key
  · have h0 : (nI (skA σ).1 = 0) = False := eq_false (fun q => by rw [show (0 : Int32) = nI 0 from rfl, z_ie (by omega) (by decide)] at q; exact hs q)
    obtain ⟨I7, J7, d1, d2, d3⟩ := k_skyX1 (k := (skA σ).1 - 1) (j := 5) hσ L5 c2 (by omega) (by decide)
    have d4 := w_skyX1 (lay_hx L5) d1
    have e5 : nI (skA σ).1 - 1 = nI ((skA σ).1 - 1) := by rw [show (1 : Int32) = nI 1 from rfl]; exact nI_sb (by omega)
    have key := fin 3 I7 J7 (by decide) d2 (fun a ha hb => by
      obtain ⟨y1, y2⟩ := F6 a ha hb
      exact ⟨by rw [d3.ii ha]; exact y1, by rw [d3.jj ha]; exact y2⟩)
    simp only [s178_0, s178_2, s178_4, s178_6, s178_8, s178_10, s178_12, s178_14, s178_16, s178_18, s178_19, s178_22, s178_24, s178_26, s178_29, s178_31, s178_33, s178_36, s178_37, s178_39, s178_40, s178_43, s178_45, s178_48, s178_49, s178_50, s178_51, s178_54, s178_56, s178_59, s178_61, s178_64, s178_65, s178_67, s178_68, s178_69, s178_70, s178_73, s178_75, s178_78, s178_79, s178_82, s178_83, s178_85, s178_88, s178_90, s178_91, hf_bd_v, hf_bd_n, hf_iv_i, hf_iv_l, hf_iv_a, hf_iv_n, hf_iv_2, z_lgl, z_lgg, z_lge, z_lgle, z_lgz, Option.getD_some, Option.isSome_some, ↓reduceIte, not_true_eq_false, not_false_eq_true, Option.toList_some, Option.toList_none, List.cons_append, List.nil_append, Nat.reduceAdd, Nat.add_assoc, ku_ne, ku_same, ne_eq, Nat.reduceEqDiff, reduceCtorEq, Nat.add_eq_left, Nat.left_eq_add, Nat.reduceEqDiff, q10, q_ne, true_or, or_true, h64c, h640, Nat.reduceLeDiff, he, n0, show N < 1000000 by omega, ← hp1, e1, n1, show N + 1 < 1000000 by omega, ← hp2, e2, n2, show N + 2 < 1000000 by omega, ← hp3, ← hI3, ← hJ3, hx_k hx3, hx_r0 hx3, hx_r1 hx3, hx_r2 hx3, hx_r3 hx3, hx_r4 hx3, hx_r5 hx3, a1, z_i0 (show (skA σ).1 < 2147483648 by omega), f1, b4, c4, h0, e5, d4]
    exact key
end
