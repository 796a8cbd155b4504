/-! THE MODEL: begin, momentum -/
/-- the places of now are told anew, up to t -/
def nwR {α : Type} (R : Nat → α) (t : Nat) (f : Nat → α) : Nat → α := fun j => if 768 ≤ j ∧ j < 768 + t then f (j - 768) else R j
section
variable {α : Type} {R f : Nat → α} {t : Nat} {v : α}
theorem nwR_0 : nwR R 0 f = R := by funext j; rw [nwR, if_neg (by omega)]
theorem nwR_t : nwR R t f (768 + t) = R (768 + t) := by rw [nwR, if_neg (by omega)]
theorem nwR_s (hv : v = f t) : up (nwR R t f) (768 + t) v = nwR R (t + 1) f := by
  subst hv
  funext y
  unfold up nwR
  by_cases c1 : y = 768 + t
  · subst c1
    rw [if_pos rfl, if_pos (by omega), show 768 + t - 768 = t by omega]
  · rw [if_neg c1]
    by_cases c3 : 768 ≤ y ∧ y < 768 + t
    · rw [if_pos c3, if_pos ⟨c3.1, by omega⟩]
    · rw [if_neg c3, if_neg (fun ⟨a, b⟩ => c3 ⟨a, by omega⟩)]
end
section
variable {g : hf_G} {I : hf_I} {J : hf_J} {a b c k m n s p q : Nat} {u v w : Int64} {i j x y : Int32}
def bgI (I : hf_I) (n : Nat) : hf_I := hf_u (hf_u (hf_u (hf_u I 270 0 (nI n)) 270 1 (nI (n * n))) 270 2 1) 270 15 0
theorem bgI_n {r : Nat} (h : r ≠ 270) : bgI I n r = I r := by rw [bgI, ku_ne h, ku_ne h, ku_ne h, ku_ne h]
theorem m_begins (h : Md g) (hn : n ≤ 8) (hn0 : 0 < n) : hf_rn 160 0 [some (.ref 270), some (.int (nI n)), none] [] g I J = some (.inl none, g, w2 (bgI I n) 271 272 (nwR (I 271) (n * n) (fun k => ltI (nI (k / n)) (nI n))) (nwR (I 272) (n * n) (fun k => ltI (nI (k % n)) (nI n))), w2 J 273 274 (nwR (J 273) (n * n) (fun _ => 0)) (nwR (J 274) (n * n) (fun _ => 0))) := by
  have hnn : n * n ≤ 64 := Nat.mul_le_mul hn hn
  have hz : ¬ nI n = 0 := nI_ne0 hn0 (by omega)
  have hI : hf_u (hf_u (hf_u (hf_u I 270 0 (nI n)) 270 1 (nI (n * n))) 270 2 1) 270 15 0 = bgI I n := rfl
  have hm : bgI I n 270 1 = nI (n * n) := by rw [bgI, ku_ix (by decide), ku_ix (by decide), ku_same]
  have hX : bgI I n 271 = I 271 := bgI_n (by decide)
  have hY : bgI I n 272 = I 272 := bgI_n (by decide)
  generalize bgI I n = I1 at *
  have loop : ∀ (d t : Nat), t + d = n * n → hf_rn 160 24 [some (.ref 270), some (.int (nI n)), some (.int (nI t))] [] g (w2 I1 271 272 (nwR (I 271) t (fun k => ltI (nI (k / n)) (nI n))) (nwR (I 272) t (fun k => ltI (nI (k % n)) (nI n)))) (w2 J 273 274 (nwR (J 273) t (fun _ => 0)) (nwR (J 274) t (fun _ => 0))) = some (.inl none, g, w2 I1 271 272 (nwR (I 271) (n * n) (fun k => ltI (nI (k / n)) (nI n))) (nwR (I 272) (n * n) (fun k => ltI (nI (k % n)) (nI n))), w2 J 273 274 (nwR (J 273) (n * n) (fun _ => 0)) (nwR (J 274) (n * n) (fun _ => 0))) := by
    intro d
    induction d with
    | zero =>
      intro t ht
      have e : t = n * n := by omega
      rw [e]
      simp only [s160_0, s160_1, s160_2, s160_5, s160_6, s160_7, s160_8, s160_9, s160_12, s160_13, s160_14, s160_17, s160_18, s160_19, s160_22, s160_23, s160_24, s160_25, s160_26, s160_29, s160_32, s160_33, s160_36, s160_39, s160_40, s160_41, s160_42, s160_43, s160_44, s160_45, s160_48, s160_49, s160_50, s160_53, s160_56, s160_57, s160_58, s160_59, s160_60, s160_61, s160_62, s160_65, s160_66, s160_67, s160_70, s160_73, s160_74, s160_75, s160_76, s160_77, s160_78, s160_81, s160_84, s160_85, s160_86, s160_87, s160_88, s160_94, hf_bd_v, hf_bd_n, hf_iv_i, hf_iv_l, hf_iv_a, hf_iv_n, hf_iv_2, z_lgl, z_lgg, z_lge, z_lgle, z_lgz, Option.getD_some, Option.isSome_some, ↓reduceIte, not_true_eq_false, not_false_eq_true, Option.toList_some, Option.toList_none, List.cons_append, List.nil_append, Nat.reduceAdd, Nat.add_assoc, ku_ne, ku_same, ne_eq, Nat.reduceEqDiff, reduceCtorEq, Nat.add_eq_left, Nat.left_eq_add, Nat.reduceEqDiff, q10, q_ne, true_or, or_true, md_k h, md_r16 h, md_k271 h, md_r17 h, md_k272 h, md_r18 h, md_k273 h, md_r19 h, md_k274 h, md_r20 h, md_k275 h, md_r21 h, md_k276 h, md_r22 h, md_k277 h, md_r23 h, md_k278 h, md_r24 h, md_k279 h, md_r25 h, md_k280 h, md_r26 h, md_k281 h, md_r27 h, md_k282 h, md_r28 h, md_k283 h, md_r29 h, md_k284 h, md_r30 h, md_k285 h, md_r31 h, md_k286 h, md_r33 h, md_k287 h, md_r34 h, md_k288 h, md_r35 h, md_k289 h, md_r36 h, md_k290 h, md_r37 h, md_k291 h, w2_n, hm, z_ii (show n * n < 2147483648 by omega) (show n * n < 2147483648 by omega), Nat.le_refl]
    | succ d ih =>
      intro t ht
      have hk1 : ¬ n * n ≤ t := by omega
      have hdv := nI_dv (show t < 2147483648 by omega) (show n < 2147483648 by omega)
      have hrm := nI_rm (show t < 2147483648 by omega) (show n < 2147483648 by omega)
      simp only [s160_24, s160_25, s160_26, s160_29, s160_32, s160_33, s160_36, s160_39, s160_40, s160_41, s160_42, s160_43, s160_44, s160_45, s160_48, s160_49, s160_50, s160_53, s160_56, s160_57, s160_58, s160_59, s160_60, s160_61, s160_62, s160_65, s160_66, s160_67, s160_70, s160_73, s160_74, s160_75, s160_76, s160_77, s160_78, s160_81, s160_84, s160_85, s160_86, s160_87, s160_88, hf_bd_v, hf_bd_n, hf_iv_i, hf_iv_l, hf_iv_a, hf_iv_n, hf_iv_2, z_lgl, z_lgg, z_lge, z_lgle, z_lgz, Option.getD_some, Option.isSome_some, ↓reduceIte, not_true_eq_false, not_false_eq_true, Option.toList_some, Option.toList_none, List.cons_append, List.nil_append, Nat.reduceAdd, Nat.add_assoc, ku_ne, ku_same, ne_eq, Nat.reduceEqDiff, reduceCtorEq, Nat.add_eq_left, Nat.left_eq_add, Nat.reduceEqDiff, q10, q_ne, true_or, or_true, md_k h, md_r16 h, md_k271 h, md_r17 h, md_k272 h, md_r18 h, md_k273 h, md_r19 h, md_k274 h, md_r20 h, md_k275 h, md_r21 h, md_k276 h, md_r22 h, md_k277 h, md_r23 h, md_k278 h, md_r24 h, md_k279 h, md_r25 h, md_k280 h, md_r26 h, md_k281 h, md_r27 h, md_k282 h, md_r28 h, md_k283 h, md_r29 h, md_k284 h, md_r30 h, md_k285 h, md_r31 h, md_k286 h, md_r33 h, md_k287 h, md_r34 h, md_k288 h, md_r35 h, md_k289 h, md_r36 h, md_k290 h, md_r37 h, md_k291 h, w2_n, hm, z_ii (show n * n < 2147483648 by omega) (show t < 2147483648 by omega), hk1, z_1, ix768, hz, hdv, hrm, m_lattice hz, z_in (show 768 + t < 2147483648 by omega), z_cl (show 768 + t < 2147483648 by omega), show 768 + t < 832 by omega, decide_true, w2_ua, w2_ub]
      rw [s160_91, nwR_s rfl, nwR_s rfl, nwR_s rfl, nwR_s rfl]
      exact ih (t + 1) (by omega)
  have key := loop (n * n) 0 (by omega)
  rw [nwR_0, nwR_0, nwR_0, nwR_0, w2_self (show 273 ≠ 274 by decide), ← hX, ← hY, w2_self (show 271 ≠ 272 by decide), hX, hY] at key
  simp only [s160_0, s160_1, s160_2, s160_5, s160_6, s160_7, s160_8, s160_9, s160_12, s160_13, s160_14, s160_17, s160_18, s160_19, s160_22, s160_23, hf_bd_v, hf_bd_n, hf_iv_i, hf_iv_l, hf_iv_a, hf_iv_n, hf_iv_2, z_lgl, z_lgg, z_lge, z_lgle, z_lgz, Option.getD_some, Option.isSome_some, ↓reduceIte, not_true_eq_false, not_false_eq_true, Option.toList_some, Option.toList_none, List.cons_append, List.nil_append, Nat.reduceAdd, Nat.add_assoc, ku_ne, ku_same, ne_eq, Nat.reduceEqDiff, reduceCtorEq, Nat.add_eq_left, Nat.left_eq_add, Nat.reduceEqDiff, q10, q_ne, true_or, or_true, md_k h, md_r16 h, md_k271 h, md_r17 h, md_k272 h, md_r18 h, md_k273 h, md_r19 h, md_k274 h, md_r20 h, md_k275 h, md_r21 h, md_k276 h, md_r22 h, md_k277 h, md_r23 h, md_k278 h, md_r24 h, md_k279 h, md_r25 h, md_k280 h, md_r26 h, md_k281 h, md_r27 h, md_k282 h, md_r28 h, md_k283 h, md_r29 h, md_k284 h, md_r30 h, md_k285 h, md_r31 h, md_k286 h, md_r33 h, md_k287 h, md_r34 h, md_k288 h, md_r35 h, md_k289 h, md_r36 h, md_k290 h, md_r37 h, md_k291 h, nI_mul, hI]
  exact key
def smI (J : hf_J) (r t : Nat) : Int64 := it t 0 fun k s => s + J r (768 + k)
theorem m_momX (h : Md g) (hc : I 270 1 = nI c) (hc2 : c ≤ 64) : hf_rn 180 0 [some (.ref 270), some (.int 1), none, none, none] [] g I J = some (.inl (some (.long (smI J 273 c))), g, hf_u I 270 38 0, J) := by
  have hc1 : hf_u I 270 38 0 270 1 = nI c := by rw [ku_ix (by decide), hc]
  have loop : ∀ (d t : Nat) (x : Int64), t + d = c → x = smI J 273 t → hf_rn 180 12 [some (.ref 270), some (.int 1), some (.long x), none, some (.int (nI (768 + t)))] [] g (hf_u I 270 38 0) J = some (.inl (some (.long (smI J 273 c))), g, hf_u I 270 38 0, J) := by
    intro d
    induction d with
    | zero =>
      intro t x ht hx
      have e : t = c := by omega
      subst e
      simp only [s180_0, s180_1, s180_2, s180_5, s180_6, s180_7, s180_10, s180_12, s180_14, s180_17, s180_18, s180_21, s180_22, s180_25, s180_26, s180_27, s180_30, s180_31, s180_34, s180_36, s180_37, s180_40, s180_41, s180_44, s180_46, s180_47, s180_48, s180_49, s180_55, s180_56, hf_bd_v, hf_bd_n, hf_iv_i, hf_iv_l, hf_iv_a, hf_iv_n, hf_iv_2, z_lgl, z_lgg, z_lge, z_lgle, z_lgz, Option.getD_some, Option.isSome_some, ↓reduceIte, not_true_eq_false, not_false_eq_true, Option.toList_some, Option.toList_none, List.cons_append, List.nil_append, Nat.reduceAdd, Nat.add_assoc, ku_ne, ku_same, ne_eq, Nat.reduceEqDiff, reduceCtorEq, Nat.add_eq_left, Nat.left_eq_add, Nat.reduceEqDiff, q10, q_ne, true_or, or_true, md_k h, md_r16 h, md_k271 h, md_r17 h, md_k272 h, md_r18 h, md_k273 h, md_r19 h, md_k274 h, md_r20 h, md_k275 h, md_r21 h, md_k276 h, md_r22 h, md_k277 h, md_r23 h, md_k278 h, md_r24 h, md_k279 h, md_r25 h, md_k280 h, md_r26 h, md_k281 h, md_r27 h, md_k282 h, md_r28 h, md_k283 h, md_r29 h, md_k284 h, md_r30 h, md_k285 h, md_r31 h, md_k286 h, md_r33 h, md_k287 h, md_r34 h, md_k288 h, md_r35 h, md_k289 h, md_r36 h, md_k290 h, md_r37 h, md_k291 h, hc1, hx, ix768, z_ii (show 768 + t < 2147483648 by omega) (show 768 + t < 2147483648 by omega), Nat.le_refl]
    | succ d ih =>
      intro t x ht hx
      have hk1 : ¬ 768 + c ≤ 768 + t := by omega
      simp only [s180_12, s180_14, s180_17, s180_18, s180_21, s180_22, s180_25, s180_26, s180_27, s180_30, s180_31, s180_34, s180_36, s180_37, s180_40, s180_41, s180_44, s180_46, s180_47, s180_48, s180_49, hf_bd_v, hf_bd_n, hf_iv_i, hf_iv_l, hf_iv_a, hf_iv_n, hf_iv_2, z_lgl, z_lgg, z_lge, z_lgle, z_lgz, Option.getD_some, Option.isSome_some, ↓reduceIte, not_true_eq_false, not_false_eq_true, Option.toList_some, Option.toList_none, List.cons_append, List.nil_append, Nat.reduceAdd, Nat.add_assoc, ku_ne, ku_same, ne_eq, Nat.reduceEqDiff, reduceCtorEq, Nat.add_eq_left, Nat.left_eq_add, Nat.reduceEqDiff, q10, q_ne, true_or, or_true, md_k h, md_r16 h, md_k271 h, md_r17 h, md_k272 h, md_r18 h, md_k273 h, md_r19 h, md_k274 h, md_r20 h, md_k275 h, md_r21 h, md_k276 h, md_r22 h, md_k277 h, md_r23 h, md_k278 h, md_r24 h, md_k279 h, md_r25 h, md_k280 h, md_r26 h, md_k281 h, md_r27 h, md_k282 h, md_r28 h, md_k283 h, md_r29 h, md_k284 h, md_r30 h, md_k285 h, md_r31 h, md_k286 h, md_r33 h, md_k287 h, md_r34 h, md_k288 h, md_r35 h, md_k289 h, md_r36 h, md_k290 h, md_r37 h, md_k291 h, hc1, ix768, z_ii (show 768 + c < 2147483648 by omega) (show 768 + t < 2147483648 by omega), hk1, z_1, z_in (show 768 + t < 2147483648 by omega), z_cl (show 768 + t < 2147483648 by omega), show 768 + t < 832 by omega, decide_true]
      rw [s180_52]
      exact ih (t + 1) _ (by omega) (by rw [hx]; rfl)
  simp only [s180_0, s180_1, s180_2, s180_5, s180_6, s180_7, s180_10, hf_bd_v, hf_bd_n, hf_iv_i, hf_iv_l, hf_iv_a, hf_iv_n, hf_iv_2, z_lgl, z_lgg, z_lge, z_lgle, z_lgz, Option.getD_some, Option.isSome_some, ↓reduceIte, not_true_eq_false, not_false_eq_true, Option.toList_some, Option.toList_none, List.cons_append, List.nil_append, Nat.reduceAdd, Nat.add_assoc, ku_ne, ku_same, ne_eq, Nat.reduceEqDiff, reduceCtorEq, Nat.add_eq_left, Nat.left_eq_add, Nat.reduceEqDiff, q10, q_ne, true_or, or_true, md_k h, md_r16 h, md_k271 h, md_r17 h, md_k272 h, md_r18 h, md_k273 h, md_r19 h, md_k274 h, md_r20 h, md_k275 h, md_r21 h, md_k276 h, md_r22 h, md_k277 h, md_r23 h, md_k278 h, md_r24 h, md_k279 h, md_r25 h, md_k280 h, md_r26 h, md_k281 h, md_r27 h, md_k282 h, md_r28 h, md_k283 h, md_r29 h, md_k284 h, md_r30 h, md_k285 h, md_r31 h, md_k286 h, md_r33 h, md_k287 h, md_r34 h, md_k288 h, md_r35 h, md_k289 h, md_r36 h, md_k290 h, md_r37 h, md_k291 h]
  exact loop c 0 0 (by omega) rfl
theorem m_momY (h : Md g) (hc : I 270 1 = nI c) (hc2 : c ≤ 64) : hf_rn 180 0 [some (.ref 270), some (.int 0), none, none, none] [] g I J = some (.inl (some (.long (smI J 274 c))), g, hf_u I 270 38 0, J) := by
  have hc1 : hf_u I 270 38 0 270 1 = nI c := by rw [ku_ix (by decide), hc]
  have loop : ∀ (d t : Nat) (x : Int64), t + d = c → x = smI J 274 t → hf_rn 180 12 [some (.ref 270), some (.int 0), some (.long x), none, some (.int (nI (768 + t)))] [] g (hf_u I 270 38 0) J = some (.inl (some (.long (smI J 274 c))), g, hf_u I 270 38 0, J) := by
    intro d
    induction d with
    | zero =>
      intro t x ht hx
      have e : t = c := by omega
      subst e
      simp only [s180_0, s180_1, s180_2, s180_5, s180_6, s180_7, s180_10, s180_12, s180_14, s180_17, s180_18, s180_21, s180_22, s180_25, s180_26, s180_27, s180_30, s180_31, s180_34, s180_36, s180_37, s180_40, s180_41, s180_44, s180_46, s180_47, s180_48, s180_49, s180_55, s180_56, hf_bd_v, hf_bd_n, hf_iv_i, hf_iv_l, hf_iv_a, hf_iv_n, hf_iv_2, z_lgl, z_lgg, z_lge, z_lgle, z_lgz, Option.getD_some, Option.isSome_some, ↓reduceIte, not_true_eq_false, not_false_eq_true, Option.toList_some, Option.toList_none, List.cons_append, List.nil_append, Nat.reduceAdd, Nat.add_assoc, ku_ne, ku_same, ne_eq, Nat.reduceEqDiff, reduceCtorEq, Nat.add_eq_left, Nat.left_eq_add, Nat.reduceEqDiff, q10, q_ne, true_or, or_true, md_k h, md_r16 h, md_k271 h, md_r17 h, md_k272 h, md_r18 h, md_k273 h, md_r19 h, md_k274 h, md_r20 h, md_k275 h, md_r21 h, md_k276 h, md_r22 h, md_k277 h, md_r23 h, md_k278 h, md_r24 h, md_k279 h, md_r25 h, md_k280 h, md_r26 h, md_k281 h, md_r27 h, md_k282 h, md_r28 h, md_k283 h, md_r29 h, md_k284 h, md_r30 h, md_k285 h, md_r31 h, md_k286 h, md_r33 h, md_k287 h, md_r34 h, md_k288 h, md_r35 h, md_k289 h, md_r36 h, md_k290 h, md_r37 h, md_k291 h, hc1, hx, ix768, z_ii (show 768 + t < 2147483648 by omega) (show 768 + t < 2147483648 by omega), Nat.le_refl]
    | succ d ih =>
      intro t x ht hx
      have hk1 : ¬ 768 + c ≤ 768 + t := by omega
      simp only [s180_12, s180_14, s180_17, s180_18, s180_21, s180_22, s180_25, s180_26, s180_27, s180_30, s180_31, s180_34, s180_36, s180_37, s180_40, s180_41, s180_44, s180_46, s180_47, s180_48, s180_49, hf_bd_v, hf_bd_n, hf_iv_i, hf_iv_l, hf_iv_a, hf_iv_n, hf_iv_2, z_lgl, z_lgg, z_lge, z_lgle, z_lgz, Option.getD_some, Option.isSome_some, ↓reduceIte, not_true_eq_false, not_false_eq_true, Option.toList_some, Option.toList_none, List.cons_append, List.nil_append, Nat.reduceAdd, Nat.add_assoc, ku_ne, ku_same, ne_eq, Nat.reduceEqDiff, reduceCtorEq, Nat.add_eq_left, Nat.left_eq_add, Nat.reduceEqDiff, q10, q_ne, true_or, or_true, md_k h, md_r16 h, md_k271 h, md_r17 h, md_k272 h, md_r18 h, md_k273 h, md_r19 h, md_k274 h, md_r20 h, md_k275 h, md_r21 h, md_k276 h, md_r22 h, md_k277 h, md_r23 h, md_k278 h, md_r24 h, md_k279 h, md_r25 h, md_k280 h, md_r26 h, md_k281 h, md_r27 h, md_k282 h, md_r28 h, md_k283 h, md_r29 h, md_k284 h, md_r30 h, md_k285 h, md_r31 h, md_k286 h, md_r33 h, md_k287 h, md_r34 h, md_k288 h, md_r35 h, md_k289 h, md_r36 h, md_k290 h, md_r37 h, md_k291 h, hc1, ix768, z_ii (show 768 + c < 2147483648 by omega) (show 768 + t < 2147483648 by omega), hk1, z_1, z_in (show 768 + t < 2147483648 by omega), z_cl (show 768 + t < 2147483648 by omega), show 768 + t < 832 by omega, decide_true]
      rw [s180_52]
      exact ih (t + 1) _ (by omega) (by rw [hx]; rfl)
  simp only [s180_0, s180_1, s180_2, s180_5, s180_6, s180_7, s180_10, hf_bd_v, hf_bd_n, hf_iv_i, hf_iv_l, hf_iv_a, hf_iv_n, hf_iv_2, z_lgl, z_lgg, z_lge, z_lgle, z_lgz, Option.getD_some, Option.isSome_some, ↓reduceIte, not_true_eq_false, not_false_eq_true, Option.toList_some, Option.toList_none, List.cons_append, List.nil_append, Nat.reduceAdd, Nat.add_assoc, ku_ne, ku_same, ne_eq, Nat.reduceEqDiff, reduceCtorEq, Nat.add_eq_left, Nat.left_eq_add, Nat.reduceEqDiff, q10, q_ne, true_or, or_true, md_k h, md_r16 h, md_k271 h, md_r17 h, md_k272 h, md_r18 h, md_k273 h, md_r19 h, md_k274 h, md_r20 h, md_k275 h, md_r21 h, md_k276 h, md_r22 h, md_k277 h, md_r23 h, md_k278 h, md_r24 h, md_k279 h, md_r25 h, md_k280 h, md_r26 h, md_k281 h, md_r27 h, md_k282 h, md_r28 h, md_k283 h, md_r29 h, md_k284 h, md_r30 h, md_k285 h, md_r31 h, md_k286 h, md_r33 h, md_k287 h, md_r34 h, md_k288 h, md_r35 h, md_k289 h, md_r36 h, md_k290 h, md_r37 h, md_k291 h]
  exact loop c 0 0 (by omega) rfl
end
