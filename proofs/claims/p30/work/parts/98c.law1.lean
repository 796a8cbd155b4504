/-! THE LAW: small numbers, forces, counts -/
theorem z_40 : hf_in 0 4 = true := by decide
theorem z_41 : hf_in 1 4 = true := by decide
theorem z_42 : hf_in 2 4 = true := by decide
theorem z_43 : hf_in 3 4 = true := by decide
theorem z_30 : hf_in 0 3 = true := by decide
theorem z_31 : hf_in 1 3 = true := by decide
theorem z_32 : hf_in 2 3 = true := by decide
theorem z_20 : hf_in 0 2 = true := by decide
theorem z_21 : hf_in 1 2 = true := by decide
theorem z_c0 : (0 : Int32).toNatClampNeg = 0 := by decide
theorem z_c1 : (1 : Int32).toNatClampNeg = 1 := by decide
theorem z_c2 : (2 : Int32).toNatClampNeg = 2 := by decide
theorem z_c3 : (3 : Int32).toNatClampNeg = 3 := by decide
theorem z_n0 : nI 0 = 0 := rfl
theorem z_n1 : nI 1 = 1 := rfl
theorem z_n2 : nI 2 = 2 := rfl
theorem z_n3 : nI 3 = 3 := rfl
theorem z_n4 : nI 4 = 4 := rfl
theorem lw_and (x : Int32) : ∃ c, c < 2147483648 ∧ x &&& 2147483647 = nI c := ⟨x.toBitVec.toNat % 2147483648, Nat.mod_lt _ (by decide), by
  apply Int32.toBitVec_inj.1
  apply BitVec.eq_of_toNat_eq
  have e2 : (nI (x.toBitVec.toNat % 2147483648)).toBitVec.toNat = (x.toBitVec.toNat % 2147483648) % 2 ^ 32 := BitVec.toNat_ofNat _ _
  rw [Int32.toBitVec_and, BitVec.toNat_and, e2, show (2147483647 : Int32).toBitVec.toNat = 2 ^ 31 - 1 from by decide, Nat.and_two_pow_sub_one_eq_mod]
  omega⟩
section
variable {σ : Sg} {g : hf_G} {I I1 I2 : hf_I} {J J1 J2 : hf_J} {s k a b c d n m t at' : Nat} {i j y : Int32} {u v w : Int64} {p q : Nat → Nat → Bool} {P : Option hf_R → Prop} {r : Nat → Int32} {rj : Nat → Int64} {vc : Nat → Nat} {R' : R4}
theorem nI_rmm (ha : a < 2147483648) (hb : b < 2147483648) (h0 : 0 < b) : nI a - nI a / nI b * nI b = nI (a % b) := by
  rw [nI_dv ha hb, nI_mul, nI_sb (Nat.div_mul_le_self a b)]
  congr 1
  have := Nat.div_add_mod a b
  rw [Nat.mul_comm] at this
  omega
theorem l_low (x : Int32) (h0 : 0 < n) (hn : n < 2147483648) : ∃ m, m < n ∧ ∀ (g : hf_G) (I : hf_I) (J : hf_J), hf_rn 153 0 [some (.int x), some (.int (nI n))] [] g I J = some (.inl (some (.int (nI m))), g, I, J) := by
  obtain ⟨c, hc, e⟩ := lw_and x
  refine ⟨c % n, Nat.mod_lt _ h0, fun g I J => ?_⟩
  have hz : ¬ nI n = 0 := fun q => by
    rw [show (0 : Int32) = nI 0 from rfl, z_ie hn (by decide)] at q
    omega
  simp only [s153_0, s153_1, s153_3, s153_4, s153_5, s153_6, hf_bd_v, hf_bd_n, hf_iv_i, hf_iv_l, hf_iv_a, hf_iv_n, hf_iv_2, z_lgl, z_lgg, z_lge, z_lgle, z_lgz, Option.getD_some, Option.isSome_some, ↓reduceIte, not_true_eq_false, not_false_eq_true, Option.toList_some, Option.toList_none, List.cons_append, List.nil_append, Nat.reduceAdd, Nat.add_assoc, ku_ne, ku_same, ne_eq, Nat.reduceEqDiff, reduceCtorEq, Nat.add_eq_left, Nat.left_eq_add, Nat.reduceEqDiff, q10, q_ne, true_or, or_true, e, hz, nI_rmm hc hn h0]
/-- what the law writes beside the class's rows -/
theorem RC_u (hσ : SOK σ) (hC : RC σ I J) (ha : 270 ≤ a) : RC σ (hf_u I a k i) J := RC_fr (sok_P hσ) hC ⟨fun b j hb => by rw [ku_ne (by unfold scI at hb; omega)], fun _ _ => rfl⟩
theorem RC_uj (hσ : SOK σ) (hC : RC σ I J) (ha : 270 ≤ a) : RC σ I (hf_u J a k v) := RC_fr (sok_P hσ) hC ⟨fun _ _ _ => rfl, fun b hb => ku_ne (by unfold scJ at hb; omega)⟩
theorem RC_w (hσ : SOK σ) (hC : RC σ I J) (ha : 270 ≤ a) : RC σ (hf_w I a r) (hf_w J a rj) := RC_fr (sok_P hσ) hC ⟨fun b j hb => by rw [kw_ne (by unfold scI at hb; omega)], fun b hb => kw_ne (by unfold scJ at hb; omega)⟩
/-- forces one by one, summed -/
theorem fo_loop (hσ : SOK σ) (hL : Lay g) (hk : hf_k g 270 = (2, 4)) (h0 : I 270 0 = nI s) (hs : sN σ = s * s) (K : ∀ I2 J2, RC σ I2 J2 → kC I I2 J J2 → P (hf_rn 179 67 [some (.ref 0), some (.ref 270), some (.long (smA (s * s) (foX σ))), none, some (.long (smA (s * s) (foY σ))), none, some (.int (nI (s * s)))] [] g I2 J2)) :
    ∀ (d k : Nat) (I1 : hf_I) (J1 : hf_J) (x y : Int64), k + d = s * s → RC σ I1 J1 → kC I I1 J J1 → x = smA k (foX σ) → y = smA k (foY σ) → P (hf_rn 179 25 [some (.ref 0), some (.ref 270), some (.long x), none, some (.long y), none, some (.int (nI k))] [] g I1 J1) := by
  have hN := sok_N hσ
  intro d
  induction d with
  | zero =>
    intro k I1 J1 x y hk1 hC hq hx hy
    have e : k = s * s := by omega
    subst e
    have hg0 : I1 270 0 = nI s := by rw [hq.ii (by decide)]; exact h0
    simp only [s179_25, s179_27, s179_28, s179_29, s179_30, s179_31, s179_32, s179_33, s179_34, s179_37, s179_38, s179_39, s179_41, s179_42, s179_43, s179_46, s179_47, s179_48, s179_50, s179_51, s179_53, s179_54, s179_55, s179_58, s179_59, s179_61, s179_64, hf_bd_v, hf_bd_n, hf_iv_i, hf_iv_l, hf_iv_a, hf_iv_n, hf_iv_2, z_lgl, z_lgg, z_lge, z_lgle, z_lgz, Option.getD_some, Option.isSome_some, ↓reduceIte, not_true_eq_false, not_false_eq_true, Option.toList_some, Option.toList_none, List.cons_append, List.nil_append, Nat.reduceAdd, Nat.add_assoc, ku_ne, ku_same, ne_eq, Nat.reduceEqDiff, reduceCtorEq, Nat.add_eq_left, Nat.left_eq_add, Nat.reduceEqDiff, q10, q_ne, true_or, or_true, hk, z_40, z_c0, hg0, nI_mul, z_ii (show s * s < 2147483648 by omega) (show s * s < 2147483648 by omega), Nat.le_refl, hx, hy]
    exact K _ _ hC hq
  | succ d ih =>
    intro k I1 J1 x y hk1 hC hq hx hy
    have hg0 : I1 270 0 = nI s := by rw [hq.ii (by decide)]; exact h0
    have hk2 : ¬ s * s ≤ k := by omega
    obtain ⟨I3, J3, a1, a2, a3⟩ := k_forceX hσ hL hC (show k < sN σ by omega)
    have a4 := w_force (lay_hx hL) a1
    obtain ⟨I4, J4, b1, b2, b3⟩ := k_forceY hσ hL a2 (show k < sN σ by omega)
    have b4 := w_force (lay_hx hL) b1
    simp only [s179_25, s179_27, s179_28, s179_29, s179_30, s179_31, s179_32, s179_33, s179_34, s179_37, s179_38, s179_39, s179_41, s179_42, s179_43, s179_46, s179_47, s179_48, s179_50, s179_51, s179_53, s179_54, s179_55, s179_58, s179_59, s179_61, hf_bd_v, hf_bd_n, hf_iv_i, hf_iv_l, hf_iv_a, hf_iv_n, hf_iv_2, z_lgl, z_lgg, z_lge, z_lgle, z_lgz, Option.getD_some, Option.isSome_some, ↓reduceIte, not_true_eq_false, not_false_eq_true, Option.toList_some, Option.toList_none, List.cons_append, List.nil_append, Nat.reduceAdd, Nat.add_assoc, ku_ne, ku_same, ne_eq, Nat.reduceEqDiff, reduceCtorEq, Nat.add_eq_left, Nat.left_eq_add, Nat.reduceEqDiff, q10, q_ne, true_or, or_true, hk, z_40, z_c0, hg0, nI_mul, z_ii (show s * s < 2147483648 by omega) (show k < 2147483648 by omega), hk2, a4, b4, z_1]
    rw [s179_64]
    exact ih _ _ _ _ _ (by omega) b2 (kC.t hq (kC.t a3 b3)) (by rw [hx]; rfl) (by rw [hy]; rfl)
theorem l_areForces (hσ : SOK σ) (hL : Lay g) (hC : RC σ I J) (hk : hf_k g 270 = (2, 4)) (h0 : I 270 0 = nI s) (hs : sN σ = s * s) (h3 : I 270 3 = nI a) (ha : a < 1000000) : Lw σ 1 g (hf_u I 270 3 (nI (a + 1))) J (hf_rn 179 0 [some (.ref 0), some (.ref 270), none, none, none, none, none] [] g I J) := by
  have hN := sok_N hσ
  have hC1 : RC σ (hf_u I 270 3 (nI (a + 1))) J := RC_u hσ hC (by decide)
  have e12 : (nI (a + 1) ≤ 12) = (a + 1 ≤ 12) := by rw [show (12 : Int32) = nI 12 from rfl]; exact z_ii (by omega) (by decide)
  by_cases hx : a + 1 ≤ 12
  · have hg0 : hf_u I 270 3 (nI (a + 1)) 270 0 = nI s := by rw [ku_ix (by decide)]; exact h0
    have key : Lw σ 1 g (hf_u I 270 3 (nI (a + 1))) J (hf_rn 179 25 [some (.ref 0), some (.ref 270), some (.long 0), none, some (.long 0), none, some (.int (nI 0))] [] g (hf_u I 270 3 (nI (a + 1))) J) := by
      refine fo_loop (P := Lw σ 1 g (hf_u I 270 3 (nI (a + 1))) J) (I := hf_u I 270 3 (nI (a + 1))) (J := J) hσ hL hk hg0 hs ?_ (s * s) 0 _ _ _ _ (by omega) hC1 kC.r rfl rfl
      intro I2 J2 c1 c2
      have g0 : I2 270 0 = nI s := by rw [c2.ii (by decide)]; exact hg0
      have r1 := w_forceX3 (lay_hx hL) (k_forceN (i := nI (s * s)) (x := 1) (y := 1) hL c1 (by rw [hs]; exact fun q => absurd q.2 (by rw [z_il (by omega) (by omega)]; omega)))
      have z1 : smA (s * s) (foX σ) = 0 := by rw [← hs]; exact foS_z
      have z2 : smA (s * s) (foY σ) = 0 := by rw [← hs]; exact foS_z
      refine ⟨1, I2, J2, Nat.le_refl _, ?_, c1, c2⟩
      simp only [s179_67, s179_68, s179_69, s179_70, s179_73, s179_75, s179_76, s179_77, s179_80, s179_81, s179_82, s179_83, s179_84, s179_85, s179_86, s179_87, s179_88, s179_89, s179_90, s179_93, s179_96, s179_97, s179_100, s179_101, s179_104, s179_105, hf_bd_v, hf_bd_n, hf_iv_i, hf_iv_l, hf_iv_a, hf_iv_n, hf_iv_2, z_lgl, z_lgg, z_lge, z_lgle, z_lgz, Option.getD_some, Option.isSome_some, ↓reduceIte, not_true_eq_false, not_false_eq_true, Option.toList_some, Option.toList_none, List.cons_append, List.nil_append, Nat.reduceAdd, Nat.add_assoc, ku_ne, ku_same, ne_eq, Nat.reduceEqDiff, reduceCtorEq, Nat.add_eq_left, Nat.left_eq_add, Nat.reduceEqDiff, q10, q_ne, true_or, or_true, hk, z_40, z_c0, g0, nI_mul, z1, z2, r1]
      rfl
    simp only [s179_0, s179_1, s179_2, s179_3, s179_4, s179_5, s179_6, s179_7, s179_8, s179_9, s179_10, s179_12, s179_15, s179_16, s179_17, s179_18, s179_19, s179_20, s179_22, s179_23, hf_bd_v, hf_bd_n, hf_iv_i, hf_iv_l, hf_iv_a, hf_iv_n, hf_iv_2, z_lgl, z_lgg, z_lge, z_lgle, z_lgz, Option.getD_some, Option.isSome_some, ↓reduceIte, not_true_eq_false, not_false_eq_true, Option.toList_some, Option.toList_none, List.cons_append, List.nil_append, Nat.reduceAdd, Nat.add_assoc, ku_ne, ku_same, ne_eq, Nat.reduceEqDiff, reduceCtorEq, Nat.add_eq_left, Nat.left_eq_add, Nat.reduceEqDiff, q10, q_ne, true_or, or_true, hk, z_43, z_c3, h3, z_1, ku_same, e12, hx]
    exact key
  · refine ⟨0, _, _, Nat.zero_le _, ?_, hC1, kC.r⟩
    simp only [s179_0, s179_1, s179_2, s179_3, s179_4, s179_5, s179_6, s179_7, s179_8, s179_9, s179_10, s179_12, s179_15, s179_16, s179_17, s179_18, s179_19, s179_20, s179_22, s179_23, hf_bd_v, hf_bd_n, hf_iv_i, hf_iv_l, hf_iv_a, hf_iv_n, hf_iv_2, z_lgl, z_lgg, z_lge, z_lgle, z_lgz, Option.getD_some, Option.isSome_some, ↓reduceIte, not_true_eq_false, not_false_eq_true, Option.toList_some, Option.toList_none, List.cons_append, List.nil_append, Nat.reduceAdd, Nat.add_assoc, ku_ne, ku_same, ne_eq, Nat.reduceEqDiff, reduceCtorEq, Nat.add_eq_left, Nat.left_eq_add, Nat.reduceEqDiff, q10, q_ne, true_or, or_true, hk, z_43, z_c3, h3, z_1, ku_same, e12, hx]
    rfl
/-- how many pairs -/
def cpN (p : Nat → Nat → Bool) (c : Nat) : Nat := it (c - 1) 0 fun t s => s + ctB (fun a => p a (t + 1)) (t + 1)
theorem cnA_in : ∀ n z, it n (nI z) (fun a s => cnA p a b s) = nI (z + ctB (fun a => p a b) n)
  | 0, z => rfl
  | n + 1, z => by
    rw [it_s, cnA_in n z, ctB_s]
    unfold cnA
    by_cases h : p n b = true
    · rw [if_pos h, if_pos h, nI_1]; rfl
    · rw [if_neg h, if_neg h]
theorem lp_cp : lpB (cnA p) c 0 = nI (cpN p c) := by
  unfold lpB cpN
  refine it_rel (fun _ (x : Int32) (y : Nat) => x = nI y) rfl (fun t x y ht h => ?_)
  rw [h]
  exact cnA_in (t + 1) y
theorem cp_all : ∀ n, it n 0 (fun t s => s + (t + 1)) = (n + 1) * n / 2
  | 0 => rfl
  | n + 1 => by
    rw [it_s, cp_all n]
    have e : (n + 1 + 1) * (n + 1) = (n + 1) * n + (n + 1) * 2 := by
      rw [Nat.mul_comm (n + 1 + 1), ← Nat.mul_add]
    rw [e, Nat.add_mul_div_right _ _ (by decide)]
theorem ctB_all : ∀ n, ctB (fun _ => true) n = n
  | 0 => rfl
  | n + 1 => by rw [ctB_s, ctB_all n]; rfl
theorem cp_true (h : ∀ a b, p a b = true) (hc : 1 ≤ c) : cpN p c = c * (c - 1) / 2 := by
  have e : cpN p c = it (c - 1) 0 fun t s => s + (t + 1) := it_cong fun t s ht => by
    rw [show ctB (fun a => p a (t + 1)) (t + 1) = ctB (fun _ => true) (t + 1) from ctB_cong fun j _ => h j _, ctB_all]
  rw [e, cp_all, show c - 1 + 1 = c by omega]
theorem ctB_two {p q : Nat → Bool} (h : ∀ a, q a = !p a) : ∀ n, ctB p n + ctB q n = n
  | 0 => rfl
  | n + 1 => by
    have := ctB_two h n
    rw [ctB_s, ctB_s, h n]
    cases p n
    · rw [if_neg (by decide), if_pos (by decide)]; omega
    · rw [if_pos rfl, if_neg (by decide)]; omega
theorem cp_two (h : ∀ a b, q a b = !p a b) (hc : 1 ≤ c) : cpN p c + cpN q c = c * (c - 1) / 2 := by
  rw [← cp_true (p := fun _ _ => true) (fun _ _ => rfl) hc]
  unfold cpN
  have gen : ∀ n, it n 0 (fun t s => s + ctB (fun a => p a (t + 1)) (t + 1)) + it n 0 (fun t s => s + ctB (fun a => q a (t + 1)) (t + 1)) = it n 0 (fun t s => s + ctB (fun _ => true) (t + 1)) := by
    intro n
    induction n with
    | zero => rfl
    | succ n ih =>
      rw [it_s, it_s, it_s, ← ih, ctB_all]
      have := ctB_two (p := fun a => p a (n + 1)) (q := fun a => q a (n + 1)) (fun a => h a _) (n + 1)
      omega
  exact gen _
theorem cp_false (h : ∀ a b, p a b = false) : cpN p c = 0 := by
  unfold cpN
  have gen : ∀ n, it n 0 (fun t s => s + ctB (fun a => p a (t + 1)) (t + 1)) = 0 := by
    intro n
    induction n with
    | zero => rfl
    | succ n ih => rw [it_s, ih, ctB_z (fun j _ => h j _)]
  exact gen _
theorem cp_le : cpN p c ≤ c * c := by
  unfold cpN
  have gen : ∀ n, it n 0 (fun t s => s + ctB (fun a => p a (t + 1)) (t + 1)) ≤ (n + 1) * n := by
    intro n
    induction n with
    | zero => exact Nat.le_refl _
    | succ n ih =>
      rw [it_s]
      have h1 := ctB_le (p := fun a => p a (n + 1)) (n + 1)
      have e : (n + 1 + 1) * (n + 1) = (n + 1) * n + (n + 1) * 2 := by
        rw [Nat.mul_comm (n + 1 + 1), ← Nat.mul_add]
      omega
  refine Nat.le_trans (gen _) ?_
  cases c with
  | zero => exact Nat.le_refl _
  | succ c => exact Nat.mul_le_mul_left _ (by omega)
theorem pr_all : prB R' 0 4096 a b = true := by
  have h := far_le (X := R'.1) (Y := R'.2.1) (a := a) (b := b)
  unfold prB
  rw [show (0 : Int32) = nI 0 from rfl, show (4096 : Int32) = nI 4096 from rfl, decide_eq_true (by rw [z_ii (by decide) (by omega)]; omega), decide_eq_true (by rw [z_il (by omega) (by decide)]; omega)]
  rfl
theorem pr_lo (hm : m < 2147483648) : prB R' 0 (nI m) a b = decide (farN R'.1 R'.2.1 a b < m) := by
  have h := far_le (X := R'.1) (Y := R'.2.1) (a := a) (b := b)
  unfold prB
  rw [show (0 : Int32) = nI 0 from rfl, decide_eq_true (by rw [z_ii (by decide) (by omega)]; omega), Bool.true_and]
  exact decide_eq_decide.mpr (by rw [z_il (by omega) hm])
theorem pr_hi (hm : m < 2147483648) : prB R' (nI m) 4096 a b = !decide (farN R'.1 R'.2.1 a b < m) := by
  have h := far_le (X := R'.1) (Y := R'.2.1) (a := a) (b := b)
  unfold prB
  rw [show (4096 : Int32) = nI 4096 from rfl, decide_eq_true (p := nI (farN R'.1 R'.2.1 a b) < nI 4096) (by rw [z_il (by omega) (by decide)]; omega), Bool.and_true, ← decide_not]
  exact decide_eq_decide.mpr (by rw [z_ii hm (by omega)]; omega)
theorem pr_no (hm : m < 2147483648) : prB R' (nI m) (nI m) a b = false := by
  have h := far_le (X := R'.1) (Y := R'.2.1) (a := a) (b := b)
  unfold prB
  by_cases e : m ≤ farN R'.1 R'.2.1 a b
  · rw [decide_eq_false (p := nI (farN R'.1 R'.2.1 a b) < nI m) (by rw [z_il (by omega) hm]; omega), Bool.and_false]
  · rw [decide_eq_false (p := nI m ≤ nI (farN R'.1 R'.2.1 a b)) (by rw [z_ii hm (by omega)]; omega), Bool.false_and]
/-- void cells: at most all but one -/
theorem spr_sub (h : ∀ x, x < 64 → btL u x = true → btL v x = true) : ∀ t x, x < 64 → btL (sprL u v t) x = true → btL v x = true
  | 0, x, hx, e => h x hx e
  | t + 1, x, hx, e => by
    have e2 : btL (sprL u v t ||| (besL (sprL u v t) &&& v)) x = true := e
    rw [bt_or hx, bt_and hx] at e2
    cases e1 : btL (sprL u v t) x
    · rw [e1] at e2
      cases e3 : btL v x
      · rw [e3] at e2; simp at e2
      · rfl
    · exact spr_sub h t x hx e1
theorem ho_63 (hz : m < 64) (hm : btL v m = false) : ∀ t, t ≤ 64 → (∀ x, x < 64 → btL (hoF v t).1 x = true → btL v x = true) ∧ ∃ n, n ≤ 63 ∧ (hoF v t).2 = nI n
  | 0, _ => ⟨fun _ _ h => h, 0, Nat.zero_le _, rfl⟩
  | t + 1, ht => by
    obtain ⟨h1, n, h2, h3⟩ := ho_63 hz hm t (by omega)
    have e : hoF v (t + 1) = hoS t (hoF v t) := rfl
    rw [e]
    unfold hoS
    by_cases hb : btL (hoF v t).1 t = true
    · rw [if_pos hb]
      have hs : ∀ x, x < 64 → btL (sprL (bitL t) (hoF v t).1 64) x = true → btL (hoF v t).1 x = true := spr_sub (fun x hx hb2 => by
        rw [bt_bit hx (by omega)] at hb2
        rw [of_decide_eq_true hb2]
        exact hb) 64
      have hc : ctB (btL (sprL (bitL t) (hoF v t).1 64)) 64 ≤ 63 := by
        have h4 := ctB_lt (p := btL (sprL (bitL t) (hoF v t).1 64)) (q := fun _ => true) (m := m) (fun _ _ => rfl) (by
          cases e1 : btL (sprL (bitL t) (hoF v t).1 64) m
          · rfl
          · have := h1 m hz (hs m hz e1)
            rw [hm] at this
            cases this) rfl 64
        rw [if_pos hz, ctB_all] at h4
        omega
      refine ⟨fun x hx hb2 => ?_, ?_⟩
      · have hb3 : btL ((hoF v t).1 &&& (sprL (bitL t) (hoF v t).1 64 ^^^ -1)) x = true := hb2
        rw [bt_and hx] at hb3
        exact h1 x hx (by cases e1 : btL (hoF v t).1 x; · rw [e1] at hb3; simp at hb3
                          · rfl)
      · dsimp only
        rw [popI_n]
        by_cases hle : nI (ctB (btL (sprL (bitL t) (hoF v t).1 64)) 64) ≤ (hoF v t).2
        · rw [if_pos hle]; exact ⟨n, h2, h3⟩
        · rw [if_neg hle]; exact ⟨_, hc, rfl⟩
    · rw [if_neg hb]
      exact ⟨h1, n, h2, h3⟩
theorem tk_0 (hv : vc 0 < 64) : ∀ n, btL (tkL (n + 1) vc) (vc 0) = true
  | 0 => by
    show btL (0 ||| bitL (vc 0)) (vc 0) = true
    rw [bt_or hv, bt_bit hv hv, decide_eq_true rfl, Bool.or_true]
  | n + 1 => by
    show btL (tkL (n + 1) vc ||| bitL (vc (n + 1))) (vc 0) = true
    rw [bt_or hv, tk_0 hv n, Bool.true_or]
theorem void_63 (hc : 1 ≤ c) (hv : ∀ m, m < c → vc m < 64) : ∃ n, n ≤ 63 ∧ (hoF (tkL c vc ^^^ -1) 64).2 = nI n := by
  have h0 := hv 0 (by omega)
  obtain ⟨d, rfl⟩ : ∃ d, c = d + 1 := ⟨c - 1, by omega⟩
  exact (ho_63 h0 (by rw [bt_not h0, tk_0 h0]; rfl) 64 (Nat.le_refl _)).2
end
section
variable {σ : Sg} {g : hf_G} {I I1 I2 : hf_I} {J J1 J2 : hf_J} {s k a b c d n m : Nat} {i j y : Int32}
theorem l_areCounts (hσ : SOK σ) (hL : Lay g) (hC : RC σ I J) (hk : hf_k g 270 = (2, 4)) (h0 : I 270 0 = nI s) (hs : sN σ = s * s) : Lw σ 1 g I J (hf_rn 180 0 [some (.ref 0), some (.ref 270), some (.int y), none, none, none] [] g I J) := by
  have hN := sok_N hσ
  have hx := lay_hx hL
  obtain ⟨m, hm, hl⟩ := l_low y (n := 2900) (by decide) (by decide)
  rw [show nI 2900 = 2900 from rfl] at hl
  obtain ⟨vc, hv, hvo⟩ := k_void hσ hL hC
  obtain ⟨w, hw, hw2⟩ := void_63 (c := sN σ) (vc := vc) (by omega) hv
  rw [hw2] at hvo
  have q1 := w_pairs hx (k_pairs (i := 0) (j := 4096) hσ hL hC (by decide))
  have q2 := w_pairs hx (k_pairs (i := 0) (j := nI m) hσ hL hC (by decide))
  have q3 := w_pairs hx (k_pairs (i := nI m) (j := 4096) hσ hL hC (nI_pos' (by omega)))
  have q4 := w_pairs hx (k_pairs (i := nI m) (j := nI m) hσ hL hC (nI_pos' (by omega)))
  have q5 := w_pairsX1 hx (k_pairsX (i := -1) (j := nI m) hσ hL hC (by decide))
  rw [lp_cp, cp_true (fun _ _ => pr_all) (by omega)] at q1
  rw [lp_cp] at q2 q3
  rw [lp_cp, cp_false (fun _ _ => pr_no (by omega))] at q4
  have hsum := cp_two (c := sN σ) (p := prB (nowR σ) 0 (nI m)) (q := prB (nowR σ) (nI m) 4096) (fun a b => by rw [pr_lo (by omega), pr_hi (by omega)]) (by omega)
  have ec : (nI (s * s) - 1) = nI (s * s - 1) := by rw [show (1 : Int32) = nI 1 from rfl]; exact nI_sb (by omega)
  have hle : s * s * (s * s - 1) ≤ 64 * 64 := Nat.mul_le_mul (by omega) (by omega)
  have ed : nI (s * s * (s * s - 1)) / 2 = nI (s * s * (s * s - 1) / 2) := by rw [show (2 : Int32) = nI 2 from rfl]; exact nI_dv (by omega) (by decide)
  have e63 : (63 < nI w) = False := by rw [show (63 : Int32) = nI 63 from rfl, z_il (by decide) (by omega)]; exact eq_false (by omega)
  rw [hs] at q1 q2 q3 hsum
  refine ⟨1, I, J, Nat.le_refl _, ?_, hC, kC.r⟩
  simp only [s180_0, s180_1, s180_2, s180_3, s180_4, s180_5, s180_6, s180_7, s180_8, s180_9, s180_12, s180_15, s180_17, s180_18, s180_21, s180_23, s180_24, s180_25, s180_28, s180_31, s180_32, s180_33, s180_34, s180_35, s180_36, s180_37, s180_38, s180_41, s180_42, s180_43, s180_45, s180_48, s180_49, s180_51, s180_54, s180_57, s180_58, s180_59, s180_60, s180_61, s180_62, s180_63, s180_64, s180_65, s180_68, s180_69, s180_71, s180_73, s180_76, s180_79, s180_80, s180_81, s180_83, s180_86, s180_88, s180_91, s180_93, s180_96, s180_98, s180_100, s180_103, s180_104, s180_107, s180_108, hf_bd_v, hf_bd_n, hf_iv_i, hf_iv_l, hf_iv_a, hf_iv_n, hf_iv_2, z_lgl, z_lgg, z_lge, z_lgle, z_lgz, Option.getD_some, Option.isSome_some, ↓reduceIte, not_true_eq_false, not_false_eq_true, Option.toList_some, Option.toList_none, List.cons_append, List.nil_append, Nat.reduceAdd, Nat.add_assoc, ku_ne, ku_same, ne_eq, Nat.reduceEqDiff, reduceCtorEq, Nat.add_eq_left, Nat.left_eq_add, Nat.reduceEqDiff, q10, q_ne, true_or, or_true, show ¬ (2 : Int32) = 0 by decide, hk, z_40, z_c0, h0, nI_mul, hl, hx_k hx, hx_r0 hx, hx_r1 hx, hx_r2 hx, hx_r3 hx, hx_r4 hx, hx_r5 hx, hvo, q1, ec, ed, q2, q3, nI_add, hsum, q4, z_n0, q5, z_i0 (show w < 2147483648 by omega), e63]
  rfl
end
