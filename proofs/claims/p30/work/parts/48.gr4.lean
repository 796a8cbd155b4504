/-! GRAINS: laying out, ripples, pairs -/
section
variable {g : hf_G} {I : hf_I} {J : hf_J} {G c s k m rx ry : Nat} {u v w kx ky am ph : Int64} {i j : Int32}
theorem c_layOut (h : Gr g G) (hs : s ≤ 8) : hf_rn 17 0 [some (.ref G), some (.int (nI s)), none] [] g I J = some (.inl none, g, hf_u (hf_u I G 4 (nI s)) G 5 (nI (s * s)), rwm (rwm (rwm2 J (G + 2) (G + 4) (s * s) (latX s) (latY s)) (G + 6) 64 (fun _ => 0)) (G + 8) 64 (fun _ => 0)) := by
  have hss : s * s ≤ 64 := Nat.mul_le_mul hs hs
  have hm : (nI (s * s) ≤ 64) = (s * s ≤ 64) := z_ii (b := 64) (by omega) (by decide)
  generalize hI : hf_u (hf_u I G 4 (nI s)) G 5 (nI (s * s)) = I1
  have hc : I1 G 5 = nI (s * s) := by rw [← hI, ku_same]
  have hs1 : I1 G 4 = nI s := by rw [← hI, ku_ix (by decide), ku_same]
  have loop : ∀ (d k : Nat) (J1 : hf_J), k + d = s * s → J1 = rwm2 J (G + 2) (G + 4) k (latX s) (latY s) → hf_rn 17 19 [some (.ref G), some (.int (nI s)), some (.int (nI k))] [] g I1 J1 = some (.inl none, g, I1, rwm (rwm (rwm2 J (G + 2) (G + 4) (s * s) (latX s) (latY s)) (G + 6) 64 (fun _ => 0)) (G + 8) 64 (fun _ => 0)) := by
    intro d
    induction d with
    | zero =>
      intro k J1 hk hJ
      have e : k = s * s := by omega
      rw [e]
      rw [e] at hJ
      simp only [s17_0, s17_1, s17_2, s17_5, s17_6, s17_7, s17_8, s17_9, s17_11, s17_14, s17_17, s17_18, s17_19, s17_20, s17_21, s17_24, s17_27, s17_28, s17_31, s17_32, s17_33, s17_34, s17_37, s17_40, s17_41, s17_44, s17_45, s17_46, s17_47, s17_50, s17_53, s17_59, s17_60, s17_63, s17_64, s17_67, s17_68, s17_71, s17_72, s17_75, hf_bd_v, hf_bd_n, hf_iv_i, hf_iv_l, hf_iv_a, hf_iv_n, hf_iv_2, z_lgl, z_lgg, z_lge, z_lgle, z_lgz, Option.getD_some, Option.isSome_some, ↓reduceIte, not_true_eq_false, not_false_eq_true, Option.toList_some, Option.toList_none, List.cons_append, List.nil_append, Nat.reduceAdd, Nat.add_assoc, ku_ne, ku_same, ne_eq, Nat.reduceEqDiff, reduceCtorEq, Nat.add_eq_left, Nat.left_eq_add, Nat.reduceEqDiff, q10, q_ne, true_or, or_true, gr_k h, gr_r0 h, gr_r1 h, gr_r2 h, gr_r3 h, hc, hJ, z_ii (show s * s < 2147483648 by omega) (show s * s < 2147483648 by omega), Nat.le_refl, (gr_rw5 h).1, (gr_rw7 h).1, c_fil (gr_rw5 h), c_fil (gr_rw7 h)]
    | succ d ih =>
      intro k J1 hk hJ
      have hk1 : ¬ s * s ≤ k := by omega
      simp only [s17_19, s17_20, s17_21, s17_24, s17_27, s17_28, s17_31, s17_32, s17_33, s17_34, s17_37, s17_40, s17_41, s17_44, s17_45, s17_46, s17_47, s17_50, s17_53, hf_bd_v, hf_bd_n, hf_iv_i, hf_iv_l, hf_iv_a, hf_iv_n, hf_iv_2, z_lgl, z_lgg, z_lge, z_lgle, z_lgz, Option.getD_some, Option.isSome_some, ↓reduceIte, not_true_eq_false, not_false_eq_true, Option.toList_some, Option.toList_none, List.cons_append, List.nil_append, Nat.reduceAdd, Nat.add_assoc, ku_ne, ku_same, ne_eq, Nat.reduceEqDiff, reduceCtorEq, Nat.add_eq_left, Nat.left_eq_add, Nat.reduceEqDiff, q10, q_ne, true_or, or_true, gr_k h, gr_r0 h, gr_r1 h, gr_r2 h, gr_r3 h, hc, z_ii (show s * s < 2147483648 by omega) (show k < 2147483648 by omega), hk1, z_1, (gr_rw1 h).1, (gr_rw3 h).1, c_set (gr_rw1 h) (show k < 64 by omega), c_set (gr_rw3 h) (show k < 64 by omega), c_latX h hs1, c_latY h hs1]
      rw [s17_56]
      exact ih _ _ (by omega) (by rw [hJ]; exact r2_s (by omega) rfl rfl)
  simp only [s17_0, s17_1, s17_2, s17_5, s17_6, s17_7, s17_8, s17_9, s17_11, s17_14, s17_17, s17_18, hf_bd_v, hf_bd_n, hf_iv_i, hf_iv_l, hf_iv_a, hf_iv_n, hf_iv_2, z_lgl, z_lgg, z_lge, z_lgle, z_lgz, Option.getD_some, Option.isSome_some, ↓reduceIte, not_true_eq_false, not_false_eq_true, Option.toList_some, Option.toList_none, List.cons_append, List.nil_append, Nat.reduceAdd, Nat.add_assoc, ku_ne, ku_same, ne_eq, Nat.reduceEqDiff, reduceCtorEq, Nat.add_eq_left, Nat.left_eq_add, Nat.reduceEqDiff, q10, q_ne, true_or, or_true, gr_k h, gr_r0 h, gr_r1 h, gr_r2 h, gr_r3 h, nI_mul, c_minI, hm, hss, hI]
  exact loop (s * s) 0 J (by omega) r2_0.symm
def rpL (s : Nat) (kx ky am ph : Int64) (k : Nat) : Int64 := wavL (ph + fdv (16 * (kx * latX s k + ky * latY s k)) 4096) * am
theorem q64 : ¬ (64 : Int64) = 0 := by decide
theorem c_ripple (h : Gr g G) (hc : I G 5 = nI c) (hc2 : c ≤ 64) (hs : I G 4 = nI s) (hv : hf_k g 1000002 = (6, 16)) (hw : I 1000002 = hf_wave) : hf_rn 22 0 [some (.ref G), some (.long kx), none, some (.long ky), none, some (.long am), none, some (.long ph), none, none, none, none, none, none] [] g I J = some (.inl none, g, I, rwm4 J (G + 2) (G + 4) (G + 6) (G + 8) c (fun k => plc (J (G + 2) k + rpL s kx ky am ph k * kx / 64)) (fun k => plc (J (G + 4) k + rpL s kx ky am ph k * ky / 64)) (fun k => J (G + 6) k + rpL s kx ky am ph k * kx / 64) (fun k => J (G + 8) k + rpL s kx ky am ph k * ky / 64)) := by
  have loop : ∀ (d k : Nat) (J1 : hf_J) (l10 l11 l12 l13 : Option Value), k + d = c → J1 = rwm4 J (G + 2) (G + 4) (G + 6) (G + 8) k (fun k => plc (J (G + 2) k + rpL s kx ky am ph k * kx / 64)) (fun k => plc (J (G + 4) k + rpL s kx ky am ph k * ky / 64)) (fun k => J (G + 6) k + rpL s kx ky am ph k * kx / 64) (fun k => J (G + 8) k + rpL s kx ky am ph k * ky / 64) → hf_rn 22 3 [some (.ref G), some (.long kx), none, some (.long ky), none, some (.long am), none, some (.long ph), none, some (.int (nI k)), l10, l11, l12, l13] [] g I J1 = some (.inl none, g, I, rwm4 J (G + 2) (G + 4) (G + 6) (G + 8) c (fun k => plc (J (G + 2) k + rpL s kx ky am ph k * kx / 64)) (fun k => plc (J (G + 4) k + rpL s kx ky am ph k * ky / 64)) (fun k => J (G + 6) k + rpL s kx ky am ph k * kx / 64) (fun k => J (G + 8) k + rpL s kx ky am ph k * ky / 64)) := by
    intro d
    induction d with
    | zero =>
      intro k J1 l10 l11 l12 l13 hk hJ
      have e : k = c := by omega
      subst e
      simp only [s22_0, s22_1, s22_3, s22_5, s22_6, s22_9, s22_12, s22_15, s22_16, s22_17, s22_19, s22_22, s22_23, s22_24, s22_25, s22_27, s22_30, s22_31, s22_32, s22_33, s22_35, s22_37, s22_39, s22_42, s22_45, s22_46, s22_49, s22_51, s22_52, s22_54, s22_55, s22_57, s22_59, s22_60, s22_61, s22_64, s22_65, s22_67, s22_68, s22_69, s22_72, s22_73, s22_76, s22_82, hf_bd_v, hf_bd_n, hf_iv_i, hf_iv_l, hf_iv_a, hf_iv_n, hf_iv_2, z_lgl, z_lgg, z_lge, z_lgle, z_lgz, Option.getD_some, Option.isSome_some, ↓reduceIte, not_true_eq_false, not_false_eq_true, Option.toList_some, Option.toList_none, List.cons_append, List.nil_append, Nat.reduceAdd, Nat.add_assoc, ku_ne, ku_same, ne_eq, Nat.reduceEqDiff, reduceCtorEq, Nat.add_eq_left, Nat.left_eq_add, Nat.reduceEqDiff, q10, q_ne, true_or, or_true, gr_k h, gr_r0 h, gr_r1 h, gr_r2 h, gr_r3 h, hc, hJ, z_ii (show k < 2147483648 by omega) (show k < 2147483648 by omega), Nat.le_refl]
    | succ d ih =>
      intro k J1 l10 l11 l12 l13 hk hJ
      have hk1 : ¬ c ≤ k := by omega
      have e1 : J1 (G + 2) k = J (G + 2) k := by rw [hJ, r4_a (by omega) (by omega) (by omega)]
      have e2 : J1 (G + 4) k = J (G + 4) k := by rw [hJ, r4_b (by omega) (by omega) (by omega)]
      have e3 : J1 (G + 6) k = J (G + 6) k := by rw [hJ, r4_c (by omega) (by omega) (by omega)]
      have e4 : J1 (G + 8) k = J (G + 8) k := by rw [hJ, r4_d (by omega) (by omega) (by omega)]
      simp only [s22_3, s22_5, s22_6, s22_9, s22_12, s22_15, s22_16, s22_17, s22_19, s22_22, s22_23, s22_24, s22_25, s22_27, s22_30, s22_31, s22_32, s22_33, s22_35, s22_37, s22_39, s22_42, s22_45, s22_46, s22_49, s22_51, s22_52, s22_54, s22_55, s22_57, s22_59, s22_60, s22_61, s22_64, s22_65, s22_67, s22_68, s22_69, s22_72, s22_73, s22_76, hf_bd_v, hf_bd_n, hf_iv_i, hf_iv_l, hf_iv_a, hf_iv_n, hf_iv_2, z_lgl, z_lgg, z_lge, z_lgle, z_lgz, Option.getD_some, Option.isSome_some, ↓reduceIte, not_true_eq_false, not_false_eq_true, Option.toList_some, Option.toList_none, List.cons_append, List.nil_append, Nat.reduceAdd, Nat.add_assoc, ku_ne, ku_same, ne_eq, Nat.reduceEqDiff, reduceCtorEq, Nat.add_eq_left, Nat.left_eq_add, Nat.reduceEqDiff, q10, q_ne, true_or, or_true, gr_k h, gr_r0 h, gr_r1 h, gr_r2 h, gr_r3 h, hc, z_ii (show c < 2147483648 by omega) (show k < 2147483648 by omega), hk1, z_1, c_latX h hs, c_latY h hs, c_fdv q4096, c_wave hv hw, q64, c_displace h (show k < 64 by omega), e1, e2, e3, e4]
      rw [s22_79]
      exact ih _ _ _ _ _ _ (by omega) (by rw [hJ]; exact r4_s (by omega) (by omega) (by omega) (by omega) (by omega) (by omega) rfl rfl rfl rfl)
  simp only [s22_0, s22_1, hf_bd_v, hf_bd_n, hf_iv_i, hf_iv_l, hf_iv_a, hf_iv_n, hf_iv_2, z_lgl, z_lgg, z_lge, z_lgle, z_lgz, Option.getD_some, Option.isSome_some, ↓reduceIte, not_true_eq_false, not_false_eq_true, Option.toList_some, Option.toList_none, List.cons_append, List.nil_append, Nat.reduceAdd, Nat.add_assoc, ku_ne, ku_same, ne_eq, Nat.reduceEqDiff, reduceCtorEq, Nat.add_eq_left, Nat.left_eq_add, Nat.reduceEqDiff, q10, q_ne, true_or, or_true]
  exact loop c 0 J _ _ _ _ (by omega) r4_0.symm
/-- how many pairs of c have it -/
def cnI (c : Nat) (p : Nat → Nat → Bool) : Int32 := it c 0 fun lo s => it (c - (lo + 1)) s fun t s => if p lo (lo + (1 + t)) = true then s + 1 else s
theorem c_pairs (h : Gr g G) (hc : I G 5 = nI c) (hc2 : c ≤ 64) : hf_rn 36 0 [some (.ref G), some (.long v), none, some (.long w), none, none, none, none, none, none] [] g I J = some (.inl (some (.int (cnI c (fun a b => decide (v ≤ farL (J (G + 2)) (J (G + 4)) a b ∧ farL (J (G + 2)) (J (G + 4)) a b < w))))), g, I, J) := by
  have hfar : ∀ a b, a < 64 → b < 64 → hf_rn 33 0 [some (.ref G), some (.int (nI a)), some (.int (nI b))] [] g I J = some (.inl (some (.long (farL (J (G + 2)) (J (G + 4)) a b))), g, I, J) := fun a b ha hb => c_farBetween h ha hb
  generalize farL (J (G + 2)) (J (G + 4)) = D at *
  have inner : ∀ (lo : Nat) (s0 : Int32) (R : Option hf_R), lo < c → (∀ l7 l8 l9, hf_rn 36 6 [some (.ref G), some (.long v), none, some (.long w), none, some (.int (it (c - (lo + 1)) s0 (fun t s => if decide (v ≤ D lo (lo + (1 + t)) ∧ D lo (lo + (1 + t)) < w) = true then s + 1 else s))), some (.int (nI (lo + 1))), l7, l8, l9] [] g I J = R) →
      ∀ (d t : Nat) (x : Int32) (l8 l9 : Option Value), lo + 1 + t + d = c → x = it t s0 (fun t s => if decide (v ≤ D lo (lo + (1 + t)) ∧ D lo (lo + (1 + t)) < w) = true then s + 1 else s) → hf_rn 36 21 [some (.ref G), some (.long v), none, some (.long w), none, some (.int x), some (.int (nI lo)), some (.int (nI (lo + (1 + t)))), l8, l9] [] g I J = R := by
    intro lo s0 R hlo hR d
    induction d with
    | zero =>
      intro t x l8 l9 ht hx
      have e : t = c - (lo + 1) := by omega
      have e2 : lo + (1 + t) = c := by omega
      rw [e2]
      simp only [s36_21, s36_23, s36_24, s36_27, s36_30, s36_31, s36_33, s36_35, s36_38, s36_40, s36_42, s36_43, s36_44, s36_47, s36_49, s36_50, s36_51, s36_54, s36_57, s36_60, s36_63, hf_bd_v, hf_bd_n, hf_iv_i, hf_iv_l, hf_iv_a, hf_iv_n, hf_iv_2, z_lgl, z_lgg, z_lge, z_lgle, z_lgz, Option.getD_some, Option.isSome_some, ↓reduceIte, not_true_eq_false, not_false_eq_true, Option.toList_some, Option.toList_none, List.cons_append, List.nil_append, Nat.reduceAdd, Nat.add_assoc, ku_ne, ku_same, ne_eq, Nat.reduceEqDiff, reduceCtorEq, Nat.add_eq_left, Nat.left_eq_add, Nat.reduceEqDiff, q10, q_ne, true_or, or_true, gr_k h, gr_r0 h, gr_r1 h, gr_r2 h, gr_r3 h, hc, z_ii (show c < 2147483648 by omega) (show c < 2147483648 by omega), Nat.le_refl, z_1]
      rw [s36_66, hx, e]
      exact hR _ _ _
    | succ d ih =>
      intro t x l8 l9 ht hx
      have hk1 : ¬ c ≤ lo + (1 + t) := by omega
      have hf := hfar lo (lo + (1 + t)) (by omega) (by omega)
      have hz := z_ii (show c < 2147483648 by omega) (show lo + (1 + t) < 2147483648 by omega)
      by_cases h1 : D lo (lo + (1 + t)) < v
      · have hn : ¬ v ≤ D lo (lo + (1 + t)) := by rw [Int64.le_iff_toInt_le]; rw [Int64.lt_iff_toInt_lt] at h1; omega
        simp only [s36_21, s36_23, s36_24, s36_27, s36_30, s36_31, s36_33, s36_35, s36_38, s36_40, s36_42, s36_43, s36_44, s36_47, s36_49, s36_50, s36_51, s36_54, s36_57, hf_bd_v, hf_bd_n, hf_iv_i, hf_iv_l, hf_iv_a, hf_iv_n, hf_iv_2, z_lgl, z_lgg, z_lge, z_lgle, z_lgz, Option.getD_some, Option.isSome_some, ↓reduceIte, not_true_eq_false, not_false_eq_true, Option.toList_some, Option.toList_none, List.cons_append, List.nil_append, Nat.reduceAdd, Nat.add_assoc, ku_ne, ku_same, ne_eq, Nat.reduceEqDiff, reduceCtorEq, Nat.add_eq_left, Nat.left_eq_add, Nat.reduceEqDiff, q10, q_ne, true_or, or_true, gr_k h, gr_r0 h, gr_r1 h, gr_r2 h, gr_r3 h, hc, hz, hk1, z_1, hf, h1]
        rw [s36_60]
        exact ih (t + 1) x _ _ (by omega) (by rw [hx, it_s, if_neg (by simp [hn])])
      · have hn : v ≤ D lo (lo + (1 + t)) := by rw [Int64.le_iff_toInt_le]; rw [Int64.lt_iff_toInt_lt] at h1; omega
        by_cases h2 : D lo (lo + (1 + t)) < w
        · have h3 : ¬ w ≤ D lo (lo + (1 + t)) := by rw [Int64.le_iff_toInt_le]; rw [Int64.lt_iff_toInt_lt] at h2; omega
          simp only [s36_21, s36_23, s36_24, s36_27, s36_30, s36_31, s36_33, s36_35, s36_38, s36_40, s36_42, s36_43, s36_44, s36_47, s36_49, s36_50, s36_51, s36_54, s36_57, hf_bd_v, hf_bd_n, hf_iv_i, hf_iv_l, hf_iv_a, hf_iv_n, hf_iv_2, z_lgl, z_lgg, z_lge, z_lgle, z_lgz, Option.getD_some, Option.isSome_some, ↓reduceIte, not_true_eq_false, not_false_eq_true, Option.toList_some, Option.toList_none, List.cons_append, List.nil_append, Nat.reduceAdd, Nat.add_assoc, ku_ne, ku_same, ne_eq, Nat.reduceEqDiff, reduceCtorEq, Nat.add_eq_left, Nat.left_eq_add, Nat.reduceEqDiff, q10, q_ne, true_or, or_true, gr_k h, gr_r0 h, gr_r1 h, gr_r2 h, gr_r3 h, hc, hz, hk1, z_1, hf, h1, h3]
          rw [s36_60]
          exact ih (t + 1) (x + 1) _ _ (by omega) (by rw [hx, it_s, if_pos (by simp [hn, h2])])
        · have h3 : w ≤ D lo (lo + (1 + t)) := by rw [Int64.le_iff_toInt_le]; rw [Int64.lt_iff_toInt_lt] at h2; omega
          simp only [s36_21, s36_23, s36_24, s36_27, s36_30, s36_31, s36_33, s36_35, s36_38, s36_40, s36_42, s36_43, s36_44, s36_47, s36_49, s36_50, s36_51, s36_54, s36_57, hf_bd_v, hf_bd_n, hf_iv_i, hf_iv_l, hf_iv_a, hf_iv_n, hf_iv_2, z_lgl, z_lgg, z_lge, z_lgle, z_lgz, Option.getD_some, Option.isSome_some, ↓reduceIte, not_true_eq_false, not_false_eq_true, Option.toList_some, Option.toList_none, List.cons_append, List.nil_append, Nat.reduceAdd, Nat.add_assoc, ku_ne, ku_same, ne_eq, Nat.reduceEqDiff, reduceCtorEq, Nat.add_eq_left, Nat.left_eq_add, Nat.reduceEqDiff, q10, q_ne, true_or, or_true, gr_k h, gr_r0 h, gr_r1 h, gr_r2 h, gr_r3 h, hc, hz, hk1, z_1, hf, h1, h3]
          rw [s36_60]
          exact ih (t + 1) x _ _ (by omega) (by rw [hx, it_s, if_neg (by simp [hn, h2])])
  have loop : ∀ (d lo : Nat) (x : Int32) (l7 l8 l9 : Option Value), lo + d = c → x = it lo 0 (fun lo s => it (c - (lo + 1)) s fun t s => if decide (v ≤ D lo (lo + (1 + t)) ∧ D lo (lo + (1 + t)) < w) = true then s + 1 else s) → hf_rn 36 6 [some (.ref G), some (.long v), none, some (.long w), none, some (.int x), some (.int (nI lo)), l7, l8, l9] [] g I J = some (.inl (some (.int (cnI c (fun a b => decide (v ≤ D a b ∧ D a b < w))))), g, I, J) := by
    intro d
    induction d with
    | zero =>
      intro lo x l7 l8 l9 hk hx
      have e : lo = c := by omega
      subst e
      simp only [s36_6, s36_8, s36_9, s36_12, s36_15, s36_17, s36_18, s36_19, s36_69, s36_71, hf_bd_v, hf_bd_n, hf_iv_i, hf_iv_l, hf_iv_a, hf_iv_n, hf_iv_2, z_lgl, z_lgg, z_lge, z_lgle, z_lgz, Option.getD_some, Option.isSome_some, ↓reduceIte, not_true_eq_false, not_false_eq_true, Option.toList_some, Option.toList_none, List.cons_append, List.nil_append, Nat.reduceAdd, Nat.add_assoc, ku_ne, ku_same, ne_eq, Nat.reduceEqDiff, reduceCtorEq, Nat.add_eq_left, Nat.left_eq_add, Nat.reduceEqDiff, q10, q_ne, true_or, or_true, gr_k h, gr_r0 h, gr_r1 h, gr_r2 h, gr_r3 h, hc, z_ii (show lo < 2147483648 by omega) (show lo < 2147483648 by omega), Nat.le_refl]
      rw [hx]
      rfl
    | succ d ih =>
      intro lo x l7 l8 l9 hk hx
      have hk1 : ¬ c ≤ lo := by omega
      simp only [s36_6, s36_8, s36_9, s36_12, s36_15, s36_17, s36_18, s36_19, hf_bd_v, hf_bd_n, hf_iv_i, hf_iv_l, hf_iv_a, hf_iv_n, hf_iv_2, z_lgl, z_lgg, z_lge, z_lgle, z_lgz, Option.getD_some, Option.isSome_some, ↓reduceIte, not_true_eq_false, not_false_eq_true, Option.toList_some, Option.toList_none, List.cons_append, List.nil_append, Nat.reduceAdd, Nat.add_assoc, ku_ne, ku_same, ne_eq, Nat.reduceEqDiff, reduceCtorEq, Nat.add_eq_left, Nat.left_eq_add, Nat.reduceEqDiff, q10, q_ne, true_or, or_true, gr_k h, gr_r0 h, gr_r1 h, gr_r2 h, gr_r3 h, hc, z_ii (show c < 2147483648 by omega) (show lo < 2147483648 by omega), hk1, z_1]
      exact inner lo x _ (by omega) (fun l7 l8 l9 => ih (lo + 1) _ _ _ _ (by omega) (by rw [hx]; rfl)) (c - (lo + 1)) 0 x l8 l9 (by omega) rfl
  simp only [s36_0, s36_1, s36_3, s36_4, hf_bd_v, hf_bd_n, hf_iv_i, hf_iv_l, hf_iv_a, hf_iv_n, hf_iv_2, z_lgl, z_lgg, z_lge, z_lgle, z_lgz, Option.getD_some, Option.isSome_some, ↓reduceIte, not_true_eq_false, not_false_eq_true, Option.toList_some, Option.toList_none, List.cons_append, List.nil_append, Nat.reduceAdd, Nat.add_assoc, ku_ne, ku_same, ne_eq, Nat.reduceEqDiff, reduceCtorEq, Nat.add_eq_left, Nat.left_eq_add, Nat.reduceEqDiff, q10, q_ne, true_or, or_true]
  exact loop c 0 0 _ _ _ (by omega) rfl
end
