/-! THE LAW: trees and galaxies -/
section
variable {σ : Sg} {g g1 : hf_G} {I I1 I2 : hf_I} {J J1 J2 : hf_J} {s k a b c d n m l t q h p e o P z : Nat} {i j y : Int32} {l2 l3 l6 l7 l8 l9 l10 l11 l12 l13 : Option Value}
theorem ct_ch (hσ : SOK σ) (hP : p < sP σ) (hk : k < sC σ p) (h : frS σ p k = some (e, o)) : chN (frS σ) (p + 1) p k = 1 + chN (frS σ) (e + 1) e o := by
  have e2 : chN (frS σ) (p + 1) p k = 1 + chN (frS σ) p e o := by rw [chN, h]
  have hl := (frS_lt h).1
  rw [e2, ch_fuel (fun e o j x hj => (frS_lt hj).1) p (e + 1) e o hl (Nat.lt_succ_self _)]
/-- the numbers of one halo's tree -/
def onN (σ : Sg) (p k : Nat) : Nat := cnZ (nxC σ) (sC σ) false p (oneS p k) 0
def alN (σ : Sg) (p k : Nat) : Nat := cnZ (nxC σ) (sC σ) true p (oneS p k) 1
def brN (σ : Sg) (p k : Nat) : Nat := chN (frS σ) (p + 1) p k
theorem tr_0 : trS σ p k 0 = nI (brN σ p k) := rfl
theorem tr_1 : trS σ p k 1 = nI (onN σ p k) := rfl
theorem tr_2 : trS σ p k 2 = nI (alN σ p k) := rfl
theorem tr_ok (hσ : SOK σ) (hp : p < sP σ) (hk : k < sC σ p) : onN σ p k < alN σ p k ∧ brN σ p k ≤ alN σ p k ∧ alN σ p k ≤ 1000 ∧ brN σ p k ≤ 13 ∧ (frS σ p k = none → brN σ p k = 1 ∧ onN σ p k = 0 ∧ alN σ p k = 1) ∧ ∀ e o, frS σ p k = some (e, o) → brN σ p k = 1 + brN σ e o ∧ 0 < onN σ p k ∧ e < p ∧ o < sC σ e ∧ nxS σ e o = some (p, k) := by
  have hP := sok_P hσ
  have hc : ∀ m, m < p → sC σ m ≤ 64 := fun m hm => sok_C hσ (by omega)
  have h1 : onN σ p k + 1 ≤ alN σ p k := cn_on (cn := sC σ) (nx := nxC σ) p (Nat.le_refl _) _ _ _ (fun _ _ h => h) (Nat.le_refl _)
  have h2 : 1 + brN σ p k ≤ alN σ p k + 1 := cn_br (P := sP σ) (fr := frS σ) (nx := nxC σ) (cn := sC σ) (fun j x e o hj hf => by
      obtain ⟨u1, u2, u3⟩ := frS_some hσ hj hf
      exact ⟨u1, u2, by rw [nxC_k (by omega) u2]; exact u3⟩) (p + 1) p k (Nat.lt_succ_self _) hp (oneS p k) 1 (decide_eq_true ⟨rfl, rfl⟩)
  have h3 := cnZ_up (nx := nxC σ) (cn := sC σ) (p := p) hc (al := true) p (Nat.le_refl _) (oneS p k) 1
  have h4 : chN (frS σ) (p + 1) p k ≤ p + 1 := ch_up (p + 1) p k
  refine ⟨by omega, by omega, ?_, ?_, fun hf => ?_, fun e o hf => ?_⟩
  · show cnZ (nxC σ) (sC σ) true p (oneS p k) 1 ≤ 1000
    omega
  · show chN (frS σ) (p + 1) p k ≤ 13
    omega
  · have hn : ∀ m o, m < p → o < sC σ m → nxC σ m o ≠ some (p, k) := fun m o hm ho => by
      rw [nxC_k (by omega) ho]
      exact frS_none hσ hp hf (by omega) ho
    exact ⟨by unfold brN; rw [chN, hf], cn_one hn p (Nat.le_refl _) 0, cn_one hn p (Nat.le_refl _) 1⟩
  · obtain ⟨u1, u2, u3⟩ := frS_some hσ hp hf
    refine ⟨ct_ch hσ hp hk hf, ?_, u1, u2, u3⟩
    have := cn_pos (nx := nxC σ) (cn := sC σ) (p := p) (k := k) u1 u2 (by rw [nxC_k (by omega) u2]; exact u3) p (Nat.le_refl _) 0 u1
    exact this
theorem pic_of (hσ : SOK σ) (hp : p < sP σ) : slN (nI p) p ∧ sl σ p ∧ ∃ R l t, hOf σ p R (sC σ p) l t := by
  have hP := sok_P hσ
  obtain ⟨R, n, l, t, hR⟩ := hOf_ex hσ (show sl σ p from Or.inr hp)
  have e := (hR.2.2.2.2.2.2 hp).2.1
  subst e
  exact ⟨Or.inr ⟨rfl, by omega⟩, Or.inr hp, R, l, t, hR⟩
theorem k_hp (hσ : SOK σ) (hL : Lay g) (hC : RC σ I J) (hp : p < sP σ) : ∃ I2 J2, hf_rn 161 0 [some (.ref 0), some (.int (nI p)), none] [] g I J = some (.inl (some (.int (nI (sC σ p)))), g, I2, J2) ∧ RC σ I2 J2 ∧ kC I I2 J J2 := by
  obtain ⟨h1, h2, R, l, t, hR⟩ := pic_of hσ hp
  obtain ⟨I2, J2, a1, a2, a3⟩ := k_halos hσ hL hC h1 h2 hR
  exact ⟨I2, J2, w_halos (lay_hx hL) a1, a2, a3⟩
theorem z_100 (ha : a ≤ 12) (hb : b < 100) : nI (100 * a + b) / 100 = nI a ∧ nI (100 * a + b) - nI a * 100 = nI b ∧ (nI (100 * a + b) = -1) = False := by
  have h100 : (100 : Int32) = nI 100 := rfl
  refine ⟨?_, ?_, ?_⟩
  · rw [h100, nI_dv (by omega) (by decide)]
    congr 1
    omega
  · rw [h100, nI_mul, nI_sb (by omega)]
    congr 1
    omega
  · exact eq_false (nI_m2n (by omega))
theorem at_next (hσ : SOK σ) (hL : Lay g) (hC : RC σ I J) (hp : p < sP σ) (hk : k < sC σ p) (hgk : hf_k g 270 = (2, 4)) (hP2 : I 270 2 = nI (sP σ)) :
    ∃ I2 J2, RC σ I2 J2 ∧ kC I I2 J J2 ∧ hf_rn 177 182 [some (.ref 0), some (.ref 270), l2, l3, some (.int (nI p)), some (.int (nI k)), some (.int (cdI (nxS σ p k))), l7, l8, l9, l10, l11, l12, l13] [] g I J = hf_rn 177 238 [some (.ref 0), some (.ref 270), l2, l3, some (.int (nI p)), some (.int (nI k)), some (.int (cdI (nxS σ p k))), l7, l8, l9, l10, l11, l12, l13] [] g I2 J2 := by
  have hP := sok_P hσ
  have hkc := sok_C hσ hp
  cases hn : nxS σ p k with
  | none =>
    refine ⟨I, J, hC, kC.r, ?_⟩
    simp only [s177_182, s177_184, s177_185, hf_bd_v, hf_bd_n, hf_iv_i, hf_iv_l, hf_iv_a, hf_iv_n, hf_iv_2, z_lgl, z_lgg, z_lge, z_lgle, z_lgz, Option.getD_some, Option.isSome_some, ↓reduceIte, not_true_eq_false, not_false_eq_true, Option.toList_some, Option.toList_none, List.cons_append, List.nil_append, Nat.reduceAdd, Nat.add_assoc, ku_ne, ku_same, ne_eq, Nat.reduceEqDiff, reduceCtorEq, Nat.add_eq_left, Nat.left_eq_add, Nat.reduceEqDiff, q10, q_ne, true_or, or_true, cdI]
  | some q =>
    obtain ⟨a, b⟩ := q
    obtain ⟨u1, u2, u3, u4⟩ := nxS_k hσ hn (by omega)
    have hac := sok_C hσ u2
    obtain ⟨e1, e2, e3⟩ := z_100 (a := a) (b := b) (by omega) (by omega)
    obtain ⟨I2, J2, a1, a2, a3⟩ := k_hp hσ hL hC u2
    have f1 : (nI a ≤ nI p) = False := by rw [z_ii (by omega) (by omega)]; exact eq_false (by omega)
    have f2 : nI p + 3 = nI (p + 3) := nI_add p 3
    have f3 : (nI (p + 3) ≤ nI a) = False := by rw [z_ii (by omega) (by omega)]; exact eq_false (by omega)
    have f4 : (nI (sP σ) ≤ nI a) = False := by rw [z_ii (by omega) (by omega)]; exact eq_false (by omega)
    have f5 : (nI (sC σ a) ≤ nI b) = False := by rw [z_ii (by omega) (by omega)]; exact eq_false (by omega)
    refine ⟨I2, J2, a2, a3, ?_⟩
    simp only [s177_182, s177_184, s177_185, s177_188, s177_190, s177_192, s177_193, s177_195, s177_198, s177_200, s177_202, s177_203, s177_205, s177_206, s177_207, s177_210, s177_212, s177_214, s177_215, s177_216, s177_217, s177_218, s177_221, s177_223, s177_225, s177_226, s177_227, s177_229, s177_231, s177_232, s177_235, hf_bd_v, hf_bd_n, hf_iv_i, hf_iv_l, hf_iv_a, hf_iv_n, hf_iv_2, z_lgl, z_lgg, z_lge, z_lgle, z_lgz, Option.getD_some, Option.isSome_some, ↓reduceIte, not_true_eq_false, not_false_eq_true, Option.toList_some, Option.toList_none, List.cons_append, List.nil_append, Nat.reduceAdd, Nat.add_assoc, ku_ne, ku_same, ne_eq, Nat.reduceEqDiff, reduceCtorEq, Nat.add_eq_left, Nat.left_eq_add, Nat.reduceEqDiff, q10, q_ne, true_or, or_true, cdI, show ¬ (100 : Int32) = 0 by decide, e3, e1, e2, f1, f2, f3, hgk, z_42, z_c2, hP2, f4, a1, f5]
theorem at_from (hσ : SOK σ) (hL : Lay g) (hC : RC σ I J) (hp : p < sP σ) (hk : k < sC σ p) :
    ∃ I2 J2, RC σ I2 J2 ∧ kC I I2 J J2 ∧ hf_rn 177 238 [some (.ref 0), some (.ref 270), l2, l3, some (.int (nI p)), some (.int (nI k)), l6, some (.int (cdI (frS σ p k))), some (.int (nI (brN σ p k))), some (.int (nI (onN σ p k))), some (.int (nI (alN σ p k))), l11, l12, l13] [] g I J = hf_rn 177 330 [some (.ref 0), some (.ref 270), l2, l3, some (.int (nI p)), some (.int (nI k)), l6, some (.int (cdI (frS σ p k))), some (.int (nI (brN σ p k))), some (.int (nI (onN σ p k))), some (.int (nI (alN σ p k))), l11, l12, l13] [] g I2 J2 := by
  have hP := sok_P hσ
  have hkc := sok_C hσ hp
  obtain ⟨t1, t2, t3, t4, t5, t6⟩ := tr_ok hσ hp hk
  have f1 : (nI (alN σ p k) ≤ nI (onN σ p k)) = False := by rw [z_ii (by omega) (by omega)]; exact eq_false (by omega)
  have f2 : (nI (alN σ p k) < nI (brN σ p k)) = False := by rw [z_il (by omega) (by omega)]; exact eq_false (by omega)
  cases hf : frS σ p k with
  | none =>
    obtain ⟨v1, v2, v3⟩ := t5 hf
    have g1 : (nI (brN σ p k) = 1) = True := eq_true (by rw [v1]; rfl)
    have g2 : (nI (onN σ p k) = 0) = True := eq_true (by rw [v2]; rfl)
    have g3 : (nI (alN σ p k) = 1) = True := eq_true (by rw [v3]; rfl)
    refine ⟨I, J, hC, kC.r, ?_⟩
    simp only [s177_238, s177_240, s177_241, s177_244, s177_246, s177_247, s177_250, s177_252, s177_255, s177_257, s177_258, s177_261, s177_264, s177_265, s177_267, s177_269, s177_270, s177_272, s177_274, s177_275, s177_278, s177_280, s177_282, s177_283, s177_285, s177_286, s177_289, s177_291, s177_292, s177_293, s177_295, s177_297, s177_298, s177_300, s177_302, s177_303, s177_304, s177_307, s177_308, s177_311, s177_313, s177_316, s177_318, s177_320, s177_323, s177_325, s177_327, hf_bd_v, hf_bd_n, hf_iv_i, hf_iv_l, hf_iv_a, hf_iv_n, hf_iv_2, z_lgl, z_lgg, z_lge, z_lgle, z_lgz, Option.getD_some, Option.isSome_some, ↓reduceIte, not_true_eq_false, not_false_eq_true, Option.toList_some, Option.toList_none, List.cons_append, List.nil_append, Nat.reduceAdd, Nat.add_assoc, ku_ne, ku_same, ne_eq, Nat.reduceEqDiff, reduceCtorEq, Nat.add_eq_left, Nat.left_eq_add, Nat.reduceEqDiff, q10, q_ne, true_or, or_true, cdI, g1, g2, g3, f1, f2]
  | some q =>
    obtain ⟨e, o⟩ := q
    obtain ⟨v1, v2, v3, v4, v5⟩ := t6 e o hf
    have hec := sok_C hσ (show e < sP σ by omega)
    obtain ⟨e1, e2, e3⟩ := z_100 (a := e) (b := o) (by omega) (by omega)
    have n1 := w_next (lay_hx hL) (k_next (k := o) hσ hL hC (show e < sP σ by omega) v4)
    rw [v5] at n1
    have n1 : hf_rn 167 0 [some (.ref 0), some (.int (nI e)), some (.int (nI o)), none] [] g I J = some (.inl (some (.int (nI (100 * p + k)))), g, I, J) := n1
    obtain ⟨I2, J2, a1, a2, a3⟩ := k_tree (m := 0) hσ hL hC (show e < sP σ by omega) v4 (by decide)
    have a4 := w_tree (lay_hx hL) a1
    rw [tr_0, z_n0] at a4
    have g1 : (100 : Int32) * nI p + nI k = nI (100 * p + k) := by rw [show (100 : Int32) = nI 100 from rfl, nI_mul, nI_add]
    have g2 : (1 : Int32) + nI (brN σ e o) = nI (brN σ p k) := by rw [show (1 : Int32) = nI 1 from rfl, nI_add, v1]
    have g3 : (nI (onN σ p k) ≤ 0) = False := by rw [show (0 : Int32) = nI 0 from rfl, z_ii (by omega) (by decide)]; exact eq_false (by omega)
    refine ⟨I2, J2, a2, a3, ?_⟩
    simp only [s177_238, s177_240, s177_241, s177_244, s177_246, s177_247, s177_250, s177_252, s177_255, s177_257, s177_258, s177_261, s177_264, s177_265, s177_267, s177_269, s177_270, s177_272, s177_274, s177_275, s177_278, s177_280, s177_282, s177_283, s177_285, s177_286, s177_289, s177_291, s177_292, s177_293, s177_295, s177_297, s177_298, s177_300, s177_302, s177_303, s177_304, s177_307, s177_308, s177_311, s177_313, s177_316, s177_318, s177_320, s177_323, s177_325, s177_327, hf_bd_v, hf_bd_n, hf_iv_i, hf_iv_l, hf_iv_a, hf_iv_n, hf_iv_2, z_lgl, z_lgg, z_lge, z_lgle, z_lgz, Option.getD_some, Option.isSome_some, ↓reduceIte, not_true_eq_false, not_false_eq_true, Option.toList_some, Option.toList_none, List.cons_append, List.nil_append, Nat.reduceAdd, Nat.add_assoc, ku_ne, ku_same, ne_eq, Nat.reduceEqDiff, reduceCtorEq, Nat.add_eq_left, Nat.left_eq_add, Nat.reduceEqDiff, q10, q_ne, true_or, or_true, cdI, show ¬ (100 : Int32) = 0 by decide, e3, e1, e2, n1, g1, a4, g2, g3, f1, f2]
/-- one halo behind another -/
theorem at_in (hσ : SOK σ) (hL : Lay g) (hp : p < sP σ) (hgk : hf_k g 270 = (2, 4)) (hP2 : I 270 2 = nI (sP σ)) {P : Option hf_R → Prop} (z0 : Nat) (K : ∀ I2 J2 l5 l6 l7 l8 l9 l10 l11 l12 l13, RC σ I2 J2 → kC I I2 J J2 → P (hf_rn 177 365 [some (.ref 0), some (.ref 270), some (.int (nI (kB (nxS σ) (vaS σ).2.2 p (sC σ p) z0))), some (.int 1), some (.int (nI p)), l5, l6, l7, l8, l9, l10, l11, l12, l13] [] g I2 J2)) :
    ∀ (d k : Nat) (I1 : hf_I) (J1 : hf_J) (l6 l7 l8 l9 l10 l11 l12 l13 : Option Value), k + d = sC σ p → RC σ I1 J1 → kC I I1 J J1 → P (hf_rn 177 51 [some (.ref 0), some (.ref 270), some (.int (nI (kB (nxS σ) (vaS σ).2.2 p k z0))), some (.int 1), some (.int (nI p)), some (.int (nI k)), l6, l7, l8, l9, l10, l11, l12, l13] [] g I1 J1) := by
  have hP := sok_P hσ
  have hkc := sok_C hσ hp
  intro d
  induction d with
  | zero =>
    intro k I1 J1 l6 l7 l8 l9 l10 l11 l12 l13 hk1 hC hq
    have e : k = sC σ p := by omega
    subst e
    obtain ⟨I3, J3, a1, a2, a3⟩ := k_hp hσ hL hC hp
    simp only [s177_51, s177_53, s177_54, s177_56, s177_59, hf_bd_v, hf_bd_n, hf_iv_i, hf_iv_l, hf_iv_a, hf_iv_n, hf_iv_2, z_lgl, z_lgg, z_lge, z_lgle, z_lgz, Option.getD_some, Option.isSome_some, ↓reduceIte, not_true_eq_false, not_false_eq_true, Option.toList_some, Option.toList_none, List.cons_append, List.nil_append, Nat.reduceAdd, Nat.add_assoc, ku_ne, ku_same, ne_eq, Nat.reduceEqDiff, reduceCtorEq, Nat.add_eq_left, Nat.left_eq_add, Nat.reduceEqDiff, q10, q_ne, true_or, or_true, a1, z_ii (show sC σ p < 2147483648 by omega) (show sC σ p < 2147483648 by omega), Nat.le_refl]
    exact K _ _ _ _ _ _ _ _ _ _ _ a2 (kC.t hq a3)
  | succ d ih =>
    intro k I1 J1 l6 l7 l8 l9 l10 l11 l12 l13 hk1 hC hq
    have hk : k < sC σ p := by omega
    have hk2 : ¬ sC σ p ≤ k := by omega
    have hx := lay_hx hL
    obtain ⟨I3, J3, a1, a2, a3⟩ := k_hp hσ hL hC hp
    have n1 := w_next hx (k_next hσ hL a2 hp hk)
    have n2 := w_from hx (k_from hσ hL a2 hp hk)
    obtain ⟨I4, J4, b1, b2, b3⟩ := k_tree (m := 0) hσ hL a2 hp hk (by decide)
    obtain ⟨I5, J5, c1, c2, c3⟩ := k_tree (m := 1) hσ hL b2 hp hk (by decide)
    obtain ⟨I6, J6, d1, d2, d3⟩ := k_tree (m := 2) hσ hL c2 hp hk (by decide)
    have b4 := w_tree hx b1
    have c4 := w_tree hx c1
    have d4 := w_tree hx d1
    rw [tr_0, z_n0] at b4
    rw [tr_1, z_n1] at c4
    rw [tr_2, z_n2] at d4
    have g1 := w_galaxy hx (k_galaxy (m := 1) hσ hL d2 hp hk (by decide))
    have g3 := w_galaxy hx (k_galaxy (m := 3) hσ hL d2 hp hk (by decide))
    have g0 := w_galaxy hx (k_galaxy (m := 0) hσ hL d2 hp hk (by decide))
    have g2 := w_galaxy hx (k_galaxy (m := 2) hσ hL d2 hp hk (by decide))
    rw [z_n1] at g1
    rw [z_n3] at g3
    rw [z_n0] at g0
    rw [z_n2] at g2
    obtain ⟨o1, o2⟩ := (gas_ok hσ).2 (64 * p + k) (by omega)
    have hv : ∀ w, w < 4 → (vaS σ).2.2 (64 * p + k) w ≤ 6400 := fun w hw => by
      have h2 := o2
      unfold totN at h2
      have : w = 0 ∨ w = 1 ∨ w = 2 ∨ w = 3 := by omega
      rcases this with rfl | rfl | rfl | rfl <;> omega
    have hv1 := hv 1 (by decide)
    have hv3 := hv 3 (by decide)
    have hg : nI ((vaS σ).2.2 (64 * p + k) 0) + nI ((vaS σ).2.2 (64 * p + k) 1) + nI ((vaS σ).2.2 (64 * p + k) 2) + nI ((vaS σ).2.2 (64 * p + k) 3) = nI (totN ((vaS σ).2.2 (64 * p + k))) := by rw [nI_add, nI_add, nI_add]; rfl
    obtain ⟨q, hqq⟩ : ∃ q, q = totN ((vaS σ).2.2 (64 * p + k)) := ⟨_, rfl⟩
    have hrm : nI q - nI q / 100 * 100 = 0 := by rw [show (100 : Int32) = nI 100 from rfl, nI_rmm (by omega) (by decide) (by decide), hqq, o1]; rfl
    rw [← hqq] at hg
    have hP3 : I6 270 2 = nI (sP σ) := by
      rw [d3.ii (by decide), c3.ii (by decide), b3.ii (by decide), a3.ii (by decide), hq.ii (by decide)]
      exact hP2
    have hz : kB (nxS σ) (vaS σ).2.2 p (k + 1) z0 = if nxS σ p k = none then kB (nxS σ) (vaS σ).2.2 p k z0 + q else kB (nxS σ) (vaS σ).2.2 p k z0 := by rw [hqq]; rfl
    have fin : ∀ zz : Int32, zz = nI (kB (nxS σ) (vaS σ).2.2 p (k + 1) z0) → P (hf_rn 177 182 [some (.ref 0), some (.ref 270), some (.int zz), some (.int 1), some (.int (nI p)), some (.int (nI k)), some (.int (cdI (nxS σ p k))), some (.int (cdI (frS σ p k))), some (.int (nI (brN σ p k))), some (.int (nI (onN σ p k))), some (.int (nI (alN σ p k))), some (.int (nI ((vaS σ).2.2 (64 * p + k) 1))), some (.int (nI ((vaS σ).2.2 (64 * p + k) 3))), some (.int (nI q))] [] g I6 J6) := by
      intro zz hzz
      obtain ⟨I7, J7, r1, r2, r3⟩ := at_next (g := g) (I := I6) (J := J6) (l2 := some (.int zz)) (l3 := some (.int 1)) (l7 := some (.int (cdI (frS σ p k)))) (l8 := some (.int (nI (brN σ p k)))) (l9 := some (.int (nI (onN σ p k)))) (l10 := some (.int (nI (alN σ p k)))) (l11 := some (.int (nI ((vaS σ).2.2 (64 * p + k) 1)))) (l12 := some (.int (nI ((vaS σ).2.2 (64 * p + k) 3)))) (l13 := some (.int (nI q))) hσ hL d2 hp hk hgk hP3
      obtain ⟨I8, J8, s1, s2, s3⟩ := at_from (g := g) (I := I7) (J := J7) (l2 := some (.int zz)) (l3 := some (.int 1)) (l6 := some (.int (cdI (nxS σ p k)))) (l11 := some (.int (nI ((vaS σ).2.2 (64 * p + k) 1)))) (l12 := some (.int (nI ((vaS σ).2.2 (64 * p + k) 3)))) (l13 := some (.int (nI q))) hσ hL r1 hp hk
      rw [r3, s3]
      simp only [s177_330, s177_332, s177_335, s177_337, s177_339, s177_340, s177_343, s177_345, s177_348, s177_350, s177_353, s177_354, s177_357, s177_358, s177_359, hf_bd_v, hf_bd_n, hf_iv_i, hf_iv_l, hf_iv_a, hf_iv_n, hf_iv_2, z_lgl, z_lgg, z_lge, z_lgle, z_lgz, Option.getD_some, Option.isSome_some, ↓reduceIte, not_true_eq_false, not_false_eq_true, Option.toList_some, Option.toList_none, List.cons_append, List.nil_append, Nat.reduceAdd, Nat.add_assoc, ku_ne, ku_same, ne_eq, Nat.reduceEqDiff, reduceCtorEq, Nat.add_eq_left, Nat.left_eq_add, Nat.reduceEqDiff, q10, q_ne, true_or, or_true, show ¬ (100 : Int32) = 0 by decide, z_i0 (show q < 2147483648 by omega), hrm, z_i0 (show (vaS σ).2.2 (64 * p + k) 1 < 2147483648 by omega), z_i0 (show (vaS σ).2.2 (64 * p + k) 3 < 2147483648 by omega), z_1]
      rw [s177_362, hzz]
      exact ih _ _ _ _ _ _ _ _ _ _ _ (by omega) s1 (kC.t hq (kC.t a3 (kC.t b3 (kC.t c3 (kC.t d3 (kC.t r2 s2))))))
    cases hn : nxS σ p k with
    | none =>
      rw [hn] at fin n1
      rw [hn, if_pos rfl] at hz
      simp only [s177_51, s177_53, s177_54, s177_56, s177_59, s177_62, s177_63, s177_66, s177_67, s177_69, s177_71, s177_74, s177_76, s177_77, s177_79, s177_81, s177_84, s177_86, s177_87, s177_89, s177_91, s177_92, s177_95, s177_97, s177_98, s177_100, s177_102, s177_103, s177_106, s177_108, s177_109, s177_111, s177_113, s177_114, s177_117, s177_119, s177_120, s177_122, s177_124, s177_125, s177_128, s177_130, s177_131, s177_133, s177_135, s177_136, s177_139, s177_141, s177_142, s177_144, s177_146, s177_147, s177_150, s177_152, s177_153, s177_154, s177_156, s177_158, s177_159, s177_162, s177_163, s177_165, s177_166, s177_168, s177_169, s177_171, s177_174, s177_176, s177_179, s177_180, s177_181, hf_bd_v, hf_bd_n, hf_iv_i, hf_iv_l, hf_iv_a, hf_iv_n, hf_iv_2, z_lgl, z_lgg, z_lge, z_lgle, z_lgz, Option.getD_some, Option.isSome_some, ↓reduceIte, not_true_eq_false, not_false_eq_true, Option.toList_some, Option.toList_none, List.cons_append, List.nil_append, Nat.reduceAdd, Nat.add_assoc, ku_ne, ku_same, ne_eq, Nat.reduceEqDiff, reduceCtorEq, Nat.add_eq_left, Nat.left_eq_add, Nat.reduceEqDiff, q10, q_ne, true_or, or_true, a1, z_ii (show sC σ p < 2147483648 by omega) (show k < 2147483648 by omega), hk2, n1, n2, b4, c4, d4, g1, g3, g0, g2, hg, show cdI none = -1 from rfl, show (0 : Int32) ≤ -1 ↔ False from by decide, nI_add (kB (nxS σ) (vaS σ).2.2 p k z0) q]
      exact fin _ (by rw [hz])
    | some w =>
      obtain ⟨a, b⟩ := w
      have hbb := nxS_k hσ hn (by omega)
      have hbc := sok_C hσ hbb.2.1
      rw [hn] at fin n1
      rw [hn, if_neg (by simp)] at hz
      have h0 : (0 ≤ nI (100 * a + b)) = True := z_0i (by omega)
      simp only [s177_51, s177_53, s177_54, s177_56, s177_59, s177_62, s177_63, s177_66, s177_67, s177_69, s177_71, s177_74, s177_76, s177_77, s177_79, s177_81, s177_84, s177_86, s177_87, s177_89, s177_91, s177_92, s177_95, s177_97, s177_98, s177_100, s177_102, s177_103, s177_106, s177_108, s177_109, s177_111, s177_113, s177_114, s177_117, s177_119, s177_120, s177_122, s177_124, s177_125, s177_128, s177_130, s177_131, s177_133, s177_135, s177_136, s177_139, s177_141, s177_142, s177_144, s177_146, s177_147, s177_150, s177_152, s177_153, s177_154, s177_156, s177_158, s177_159, s177_162, s177_163, s177_165, s177_166, s177_168, s177_169, s177_171, s177_174, s177_176, s177_179, s177_180, s177_181, hf_bd_v, hf_bd_n, hf_iv_i, hf_iv_l, hf_iv_a, hf_iv_n, hf_iv_2, z_lgl, z_lgg, z_lge, z_lgle, z_lgz, Option.getD_some, Option.isSome_some, ↓reduceIte, not_true_eq_false, not_false_eq_true, Option.toList_some, Option.toList_none, List.cons_append, List.nil_append, Nat.reduceAdd, Nat.add_assoc, ku_ne, ku_same, ne_eq, Nat.reduceEqDiff, reduceCtorEq, Nat.add_eq_left, Nat.left_eq_add, Nat.reduceEqDiff, q10, q_ne, true_or, or_true, a1, z_ii (show sC σ p < 2147483648 by omega) (show k < 2147483648 by omega), hk2, n1, n2, b4, c4, d4, g1, g3, g0, g2, hg, show cdI (some (a, b)) = nI (100 * a + b) from rfl, h0, Int32.add_zero]
      exact fin _ (by rw [hz])
theorem at_out (hσ : SOK σ) (hL : Lay g) (hgk : hf_k g 270 = (2, 4)) (h0 : I 270 0 = nI (sq σ 0)) (hP2 : I 270 2 = nI (sP σ)) (hg2 : tg m g1 = g) (hm : m ≤ 2) :
    ∀ (d p : Nat) (I1 : hf_I) (J1 : hf_J) (l5 l6 l7 l8 l9 l10 l11 l12 l13 : Option Value), p + d = sP σ → RC σ I1 J1 → kC I I1 J J1 → Lw σ 2 g1 I J (hf_rn 177 36 [some (.ref 0), some (.ref 270), some (.int (nI (kA (nxS σ) (sC σ) (vaS σ).2.2 p))), some (.int 1), some (.int (nI p)), l5, l6, l7, l8, l9, l10, l11, l12, l13] [] g I1 J1) := by
  have hP := sok_P hσ
  have hN := sok_N hσ
  intro d
  induction d with
  | zero =>
    intro p I1 J1 l5 l6 l7 l8 l9 l10 l11 l12 l13 hp hC hq
    have e : p = sP σ := by omega
    subst e
    have hx := lay_hx hL
    have hG2 : I1 270 2 = nI (sP σ) := by rw [hq.ii (by decide)]; exact hP2
    have hG0 : I1 270 0 = nI (sq σ 0) := by rw [hq.ii (by decide)]; exact h0
    have hkp := k_kept hσ hL hC
    have hle := (gas_ok hσ).1
    have hc : sN σ = sq σ 0 * sq σ 0 := hσ.1.2
    rw [hc] at hle hN
    have e1 : (100 : Int32) * nI (sq σ 0) * nI (sq σ 0) = nI (100 * (sq σ 0 * sq σ 0)) := by rw [show (100 : Int32) = nI 100 from rfl, nI_mul, nI_mul, Nat.mul_assoc]
    have e2 : (nI (100 * (sq σ 0 * sq σ 0)) < nI (kA (nxS σ) (sC σ) (vaS σ).2.2 (sP σ))) = False := by rw [z_il (by omega) (by omega)]; exact eq_false (by omega)
    refine ⟨m, I1, J1, hm, ?_, hC, hq⟩
    simp only [s177_36, s177_38, s177_39, s177_40, s177_41, s177_44, s177_45, s177_371, s177_372, s177_375, s177_376, s177_379, s177_380, s177_383, s177_384, s177_386, s177_387, s177_388, s177_389, s177_390, s177_391, s177_392, s177_393, s177_394, s177_397, s177_398, s177_401, s177_402, hf_bd_v, hf_bd_n, hf_iv_i, hf_iv_l, hf_iv_a, hf_iv_n, hf_iv_2, z_lgl, z_lgg, z_lge, z_lgle, z_lgz, Option.getD_some, Option.isSome_some, ↓reduceIte, not_true_eq_false, not_false_eq_true, Option.toList_some, Option.toList_none, List.cons_append, List.nil_append, Nat.reduceAdd, Nat.add_assoc, ku_ne, ku_same, ne_eq, Nat.reduceEqDiff, reduceCtorEq, Nat.add_eq_left, Nat.left_eq_add, Nat.reduceEqDiff, q10, q_ne, true_or, or_true, hgk, z_42, z_c2, hG2, z_ii (show sP σ < 2147483648 by omega) (show sP σ < 2147483648 by omega), Nat.le_refl, hx_k hx, hx_r0 hx, hx_r1 hx, hx_r2 hx, hx_r3 hx, hx_r4 hx, hx_r5 hx, hkp, z_40, z_c0, hG0, e1, e2]
    rw [hg2]
  | succ d ih =>
    intro p I1 J1 l5 l6 l7 l8 l9 l10 l11 l12 l13 hp hC hq
    have hG2 : I1 270 2 = nI (sP σ) := by rw [hq.ii (by decide)]; exact hP2
    have hk2 : ¬ sP σ ≤ p := by omega
    have key := at_in (σ := σ) (g := g) (I := I1) (J := J1) (p := p) (P := Lw σ 2 g1 I J) hσ hL (by omega) hgk hG2 (kA (nxS σ) (sC σ) (vaS σ).2.2 p) (fun I2 J2 l5 l6 l7 l8 l9 l10 l11 l12 l13 c1 c2 => by
      simp only [s177_365, hf_bd_v, hf_bd_n, hf_iv_i, hf_iv_l, hf_iv_a, hf_iv_n, hf_iv_2, z_lgl, z_lgg, z_lge, z_lgle, z_lgz, Option.getD_some, Option.isSome_some, ↓reduceIte, not_true_eq_false, not_false_eq_true, Option.toList_some, Option.toList_none, List.cons_append, List.nil_append, Nat.reduceAdd, Nat.add_assoc, ku_ne, ku_same, ne_eq, Nat.reduceEqDiff, reduceCtorEq, Nat.add_eq_left, Nat.left_eq_add, Nat.reduceEqDiff, q10, q_ne, true_or, or_true, z_1]
      rw [s177_368]
      exact ih (p + 1) _ _ _ _ _ _ _ _ _ _ _ (by omega) c1 (kC.t hq c2)) (sC σ p) 0 I1 J1 l6 l7 l8 l9 l10 l11 l12 l13 (by omega) hC kC.r
    simp only [s177_36, s177_38, s177_39, s177_40, s177_41, s177_44, s177_45, s177_48, s177_49, hf_bd_v, hf_bd_n, hf_iv_i, hf_iv_l, hf_iv_a, hf_iv_n, hf_iv_2, z_lgl, z_lgg, z_lge, z_lgle, z_lgz, Option.getD_some, Option.isSome_some, ↓reduceIte, not_true_eq_false, not_false_eq_true, Option.toList_some, Option.toList_none, List.cons_append, List.nil_append, Nat.reduceAdd, Nat.add_assoc, ku_ne, ku_same, ne_eq, Nat.reduceEqDiff, reduceCtorEq, Nat.add_eq_left, Nat.left_eq_add, Nat.reduceEqDiff, q10, q_ne, true_or, or_true, hgk, z_42, z_c2, hG2, z_ii (show sP σ < 2147483648 by omega) (show p < 2147483648 by omega), hk2]
    exact key
theorem l_areTrees (hσ : SOK σ) (hL : Lay g) (hb : hf_n g + 70 < 1000000) (hC : RC σ I J) (hk : hf_k g 270 = (2, 4)) (h0 : I 270 0 = nI (sq σ 0)) (h2 : I 270 2 = nI (sP σ)) : Lw σ 2 g I J (hf_rn 177 0 [some (.ref 0), some (.ref 270), none, none, none, none, none, none, none, none, none, none, none, none] [] g I J) := by
  have hP := sok_P hσ
  have hx := lay_hx hL
  have n1 := w_nextX3 hx (k_nextX (i := nI (sP σ)) (j := 0) hσ hL hC (fun ⟨p, k, u1, u2, u3, u4⟩ => by
    rw [z_ie (by omega) (by omega)] at u3
    omega))
  have hL1 : Lay (hf_th g) := hL.tg (k := 1) (by omega)
  have n2 := w_treeX3 (lay_hx hL1) (k_treeX (i := -1) (j := 0) (x := 0) hσ hL1 hC (fun ⟨p, k, u1, u2, u3, u4⟩ => absurd u3.symm (nI_m1n (by omega))))
  have hL2 : Lay (tg 2 g) := hL.tg (by omega)
  simp only [s177_0, s177_1, s177_2, s177_3, s177_4, s177_5, s177_6, s177_7, s177_10, s177_12, s177_15, s177_16, s177_17, s177_18, s177_19, s177_22, s177_24, s177_27, s177_28, s177_31, s177_32, s177_33, s177_34, hf_bd_v, hf_bd_n, hf_iv_i, hf_iv_l, hf_iv_a, hf_iv_n, hf_iv_2, z_lgl, z_lgg, z_lge, z_lgle, z_lgz, Option.getD_some, Option.isSome_some, ↓reduceIte, not_true_eq_false, not_false_eq_true, Option.toList_some, Option.toList_none, List.cons_append, List.nil_append, Nat.reduceAdd, Nat.add_assoc, ku_ne, ku_same, ne_eq, Nat.reduceEqDiff, reduceCtorEq, Nat.add_eq_left, Nat.left_eq_add, Nat.reduceEqDiff, q10, q_ne, true_or, or_true, hk, z_42, z_c2, h2, n1, n2]
  exact at_out (g1 := g) (m := 2) hσ hL2 (by rw [tg_k]; exact hk) h0 h2 rfl (Nat.le_refl _) (sP σ) 0 I J none none none none none none none none none (by omega) hC kC.r
end
