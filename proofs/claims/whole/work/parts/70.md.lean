/-! THE MODEL: small ways -/
section
variable {g : hf_G} {I : hf_I} {J : hf_J} {c k m n : Nat} {a b d u v w : Int64} {i j x y : Int32}
def inI (v a b : Int64) : Bool := decide (a ≤ v ∧ v ≤ b)
theorem m_in : hf_rn 149 0 [some (.long v), none, some (.long a), none, some (.long b), none] [] g I J = some (.inl (some (.int (if inI v a b = true then 1 else 0))), g, I, J) := by
  by_cases h1 : v < a
  · have hh : inI v a b = false := decide_eq_false (fun c => L_nle h1 c.1)
    simp only [s149_0, s149_1, s149_2, s149_3, s149_6, s149_7, s149_9, s149_10, s149_13, s149_14, s149_17, s149_18, hf_bd_v, hf_bd_n, hf_iv_i, hf_iv_l, hf_iv_a, hf_iv_n, hf_iv_2, z_lgl, z_lgg, z_lge, z_lgle, z_lgz, Option.getD_some, Option.isSome_some, ↓reduceIte, not_true_eq_false, not_false_eq_true, Option.toList_some, Option.toList_none, List.cons_append, List.nil_append, Nat.reduceAdd, Nat.add_assoc, ku_ne, ku_same, ne_eq, Nat.reduceEqDiff, reduceCtorEq, Nat.add_eq_left, Nat.left_eq_add, Nat.reduceEqDiff, q10, q_ne, true_or, or_true, h1, hh, Bool.false_eq_true]
  · by_cases h2 : b < v
    · have hh : inI v a b = false := decide_eq_false (fun c => L_nle h2 c.2)
      simp only [s149_0, s149_1, s149_2, s149_3, s149_6, s149_7, s149_9, s149_10, s149_13, s149_14, s149_17, s149_18, hf_bd_v, hf_bd_n, hf_iv_i, hf_iv_l, hf_iv_a, hf_iv_n, hf_iv_2, z_lgl, z_lgg, z_lge, z_lgle, z_lgz, Option.getD_some, Option.isSome_some, ↓reduceIte, not_true_eq_false, not_false_eq_true, Option.toList_some, Option.toList_none, List.cons_append, List.nil_append, Nat.reduceAdd, Nat.add_assoc, ku_ne, ku_same, ne_eq, Nat.reduceEqDiff, reduceCtorEq, Nat.add_eq_left, Nat.left_eq_add, Nat.reduceEqDiff, q10, q_ne, true_or, or_true, h1, h2, L_nle h2, hh, Bool.false_eq_true]
    · have hh : inI v a b = true := decide_eq_true ⟨L_le h1, L_le h2⟩
      simp only [s149_0, s149_1, s149_2, s149_3, s149_6, s149_7, s149_9, s149_10, s149_13, s149_14, s149_17, s149_18, hf_bd_v, hf_bd_n, hf_iv_i, hf_iv_l, hf_iv_a, hf_iv_n, hf_iv_2, z_lgl, z_lgg, z_lge, z_lgle, z_lgz, Option.getD_some, Option.isSome_some, ↓reduceIte, not_true_eq_false, not_false_eq_true, Option.toList_some, Option.toList_none, List.cons_append, List.nil_append, Nat.reduceAdd, Nat.add_assoc, ku_ne, ku_same, ne_eq, Nat.reduceEqDiff, reduceCtorEq, Nat.add_eq_left, Nat.left_eq_add, Nat.reduceEqDiff, q10, q_ne, true_or, or_true, h1, h2, L_le h2, hh]
def gosI (p q : Bool) : Int32 := if p = true then (if q = true then 0 else 2) else 1
def bI (p : Bool) : Int32 := if p = true then 1 else 0
theorem bI_t : bI true = 1 := rfl
theorem bI_f : bI false = 0 := rfl
theorem m_goes (h : Md g) (p q : Bool) : hf_rn 150 0 [some (.ref 270), some (.int (bI p)), some (.int (bI q))] [] g I J = some (.inl (some (.int (bI (p && q)))), g, hf_u I 270 38 (gosI p q), J) := by
  cases p <;> cases q <;>
    simp only [s150_0, s150_1, s150_2, s150_5, s150_6, s150_9, s150_10, s150_13, s150_14, s150_17, s150_18, s150_21, s150_22, s150_25, s150_28, s150_29, s150_32, s150_33, hf_bd_v, hf_bd_n, hf_iv_i, hf_iv_l, hf_iv_a, hf_iv_n, hf_iv_2, z_lgl, z_lgg, z_lge, z_lgle, z_lgz, Option.getD_some, Option.isSome_some, ↓reduceIte, not_true_eq_false, not_false_eq_true, Option.toList_some, Option.toList_none, List.cons_append, List.nil_append, Nat.reduceAdd, Nat.add_assoc, ku_ne, ku_same, ne_eq, Nat.reduceEqDiff, reduceCtorEq, Nat.add_eq_left, Nat.left_eq_add, Nat.reduceEqDiff, q10, q_ne, true_or, or_true, md_k h, md_r16 h, md_k271 h, md_r17 h, md_k272 h, md_r18 h, md_k273 h, md_r19 h, md_k274 h, md_r20 h, md_k275 h, md_r21 h, md_k276 h, md_r22 h, md_k277 h, md_r23 h, md_k278 h, md_r24 h, md_k279 h, md_r25 h, md_k280 h, md_r26 h, md_k281 h, md_r27 h, md_k282 h, md_r28 h, md_k283 h, md_r29 h, md_k284 h, md_r30 h, md_k285 h, md_r31 h, md_k286 h, md_r33 h, md_k287 h, md_r34 h, md_k288 h, md_r35 h, md_k289 h, md_r36 h, md_k290 h, md_r37 h, md_k291 h, bI_t, bI_f, gosI, Bool.false_eq_true, Bool.and_true, Bool.and_false, Bool.true_and, Bool.false_and, show ((2 : Int32) = 0) = False from eq_false (by decide)]
theorem m_thrown (h : Md g) : hf_rn 148 0 [some (.ref 270)] [] g I J = some (.inl (some (.int (I 270 38))), g, I, J) := by
  simp only [s148_0, s148_1, s148_4, hf_bd_v, hf_bd_n, hf_iv_i, hf_iv_l, hf_iv_a, hf_iv_n, hf_iv_2, z_lgl, z_lgg, z_lge, z_lgle, z_lgz, Option.getD_some, Option.isSome_some, ↓reduceIte, not_true_eq_false, not_false_eq_true, Option.toList_some, Option.toList_none, List.cons_append, List.nil_append, Nat.reduceAdd, Nat.add_assoc, ku_ne, ku_same, ne_eq, Nat.reduceEqDiff, reduceCtorEq, Nat.add_eq_left, Nat.left_eq_add, Nat.reduceEqDiff, q10, q_ne, true_or, or_true, md_k h, md_r16 h, md_k271 h, md_r17 h, md_k272 h, md_r18 h, md_k273 h, md_r19 h, md_k274 h, md_r20 h, md_k275 h, md_r21 h, md_k276 h, md_r22 h, md_k277 h, md_r23 h, md_k278 h, md_r24 h, md_k279 h, md_r25 h, md_k280 h, md_r26 h, md_k281 h, md_r27 h, md_k282 h, md_r28 h, md_k283 h, md_r29 h, md_k284 h, md_r30 h, md_k285 h, md_r31 h, md_k286 h, md_r33 h, md_k287 h, md_r34 h, md_k288 h, md_r35 h, md_k289 h, md_r36 h, md_k290 h, md_r37 h, md_k291 h]
def dwL (a b : Int64) : Int64 := if a < a / b * b then a / b - 1 else a / b
theorem m_down (h : ¬ b = 0) : hf_rn 151 0 [some (.long a), none, some (.long b), none, none, none] [] g I J = some (.inl (some (.long (dwL a b))), g, I, J) := by
  unfold dwL
  by_cases h1 : a < a / b * b
  · simp only [s151_0, s151_1, s151_2, s151_3, s151_5, s151_7, s151_8, s151_9, s151_10, s151_11, s151_14, s151_16, s151_17, s151_18, s151_21, s151_23, hf_bd_v, hf_bd_n, hf_iv_i, hf_iv_l, hf_iv_a, hf_iv_n, hf_iv_2, z_lgl, z_lgg, z_lge, z_lgle, z_lgz, Option.getD_some, Option.isSome_some, ↓reduceIte, not_true_eq_false, not_false_eq_true, Option.toList_some, Option.toList_none, List.cons_append, List.nil_append, Nat.reduceAdd, Nat.add_assoc, ku_ne, ku_same, ne_eq, Nat.reduceEqDiff, reduceCtorEq, Nat.add_eq_left, Nat.left_eq_add, Nat.reduceEqDiff, q10, q_ne, true_or, or_true, h, h1, L_nle h1]
  · simp only [s151_0, s151_1, s151_2, s151_3, s151_5, s151_7, s151_8, s151_9, s151_10, s151_11, s151_14, s151_16, s151_17, s151_18, s151_21, s151_23, hf_bd_v, hf_bd_n, hf_iv_i, hf_iv_l, hf_iv_a, hf_iv_n, hf_iv_2, z_lgl, z_lgg, z_lge, z_lgle, z_lgz, Option.getD_some, Option.isSome_some, ↓reduceIte, not_true_eq_false, not_false_eq_true, Option.toList_some, Option.toList_none, List.cons_append, List.nil_append, Nat.reduceAdd, Nat.add_assoc, ku_ne, ku_same, ne_eq, Nat.reduceEqDiff, reduceCtorEq, Nat.add_eq_left, Nat.left_eq_add, Nat.reduceEqDiff, q10, q_ne, true_or, or_true, h, h1, L_le h1]
def wiI (v : Int64) : Int32 := (v - dwL v 4096 * 4096).toInt32
theorem m_within : hf_rn 152 0 [some (.long v), none] [] g I J = some (.inl (some (.int (wiI v))), g, I, J) := by
  simp only [s152_0, s152_1, s152_2, s152_5, s152_8, s152_11, s152_12, s152_13, s152_14, hf_bd_v, hf_bd_n, hf_iv_i, hf_iv_l, hf_iv_a, hf_iv_n, hf_iv_2, z_lgl, z_lgg, z_lge, z_lgle, z_lgz, Option.getD_some, Option.isSome_some, ↓reduceIte, not_true_eq_false, not_false_eq_true, Option.toList_some, Option.toList_none, List.cons_append, List.nil_append, Nat.reduceAdd, Nat.add_assoc, ku_ne, ku_same, ne_eq, Nat.reduceEqDiff, reduceCtorEq, Nat.add_eq_left, Nat.left_eq_add, Nat.reduceEqDiff, q10, q_ne, true_or, or_true, m_down q4096, wiI]
theorem I_nle {a b : Int32} (h : a < b) : ¬ b ≤ a := by rw [Int32.le_iff_toInt_le]; rw [Int32.lt_iff_toInt_lt] at h; omega
theorem I_le {a b : Int32} (h : ¬ a < b) : b ≤ a := by rw [Int32.le_iff_toInt_le]; rw [Int32.lt_iff_toInt_lt] at h; omega
def wyI (i j : Int32) : Int32 := if wiI (j - i).toInt64 < 2048 then wiI (j - i).toInt64 else wiI (j - i).toInt64 - 4096
theorem m_way : hf_rn 153 0 [some (.int i), some (.int j), none] [] g I J = some (.inl (some (.int (wyI i j))), g, I, J) := by
  unfold wyI
  by_cases h1 : wiI (j - i).toInt64 < 2048
  · simp only [s153_0, s153_1, s153_2, s153_3, s153_4, s153_7, s153_8, s153_9, s153_12, s153_15, s153_16, s153_19, s153_20, s153_23, s153_24, hf_bd_v, hf_bd_n, hf_iv_i, hf_iv_l, hf_iv_a, hf_iv_n, hf_iv_2, z_lgl, z_lgg, z_lge, z_lgle, z_lgz, Option.getD_some, Option.isSome_some, ↓reduceIte, not_true_eq_false, not_false_eq_true, Option.toList_some, Option.toList_none, List.cons_append, List.nil_append, Nat.reduceAdd, Nat.add_assoc, ku_ne, ku_same, ne_eq, Nat.reduceEqDiff, reduceCtorEq, Nat.add_eq_left, Nat.left_eq_add, Nat.reduceEqDiff, q10, q_ne, true_or, or_true, m_within, h1]
  · simp only [s153_0, s153_1, s153_2, s153_3, s153_4, s153_7, s153_8, s153_9, s153_12, s153_15, s153_16, s153_19, s153_20, s153_23, s153_24, hf_bd_v, hf_bd_n, hf_iv_i, hf_iv_l, hf_iv_a, hf_iv_n, hf_iv_2, z_lgl, z_lgg, z_lge, z_lgle, z_lgz, Option.getD_some, Option.isSome_some, ↓reduceIte, not_true_eq_false, not_false_eq_true, Option.toList_some, Option.toList_none, List.cons_append, List.nil_append, Nat.reduceAdd, Nat.add_assoc, ku_ne, ku_same, ne_eq, Nat.reduceEqDiff, reduceCtorEq, Nat.add_eq_left, Nat.left_eq_add, Nat.reduceEqDiff, q10, q_ne, true_or, or_true, m_within, h1]
def sqI (x y : Int32) : Int32 := x * x + y * y
theorem m_squares : hf_rn 154 0 [some (.int x), some (.int y)] [] g I J = some (.inl (some (.int (sqI x y))), g, I, J) := by
  simp only [s154_0, s154_1, s154_2, s154_3, s154_4, s154_5, s154_6, s154_7, hf_bd_v, hf_bd_n, hf_iv_i, hf_iv_l, hf_iv_a, hf_iv_n, hf_iv_2, z_lgl, z_lgg, z_lge, z_lgle, z_lgz, Option.getD_some, Option.isSome_some, ↓reduceIte, not_true_eq_false, not_false_eq_true, Option.toList_some, Option.toList_none, List.cons_append, List.nil_append, Nat.reduceAdd, Nat.add_assoc, ku_ne, ku_same, ne_eq, Nat.reduceEqDiff, reduceCtorEq, Nat.add_eq_left, Nat.left_eq_add, Nat.reduceEqDiff, q10, q_ne, true_or, or_true, sqI]
def dgN (k : Nat) : Nat := 4096 / 2 ^ k
def rtN (q : Int32) (t : Nat) : Nat := it t 0 fun k f => if nI (f + dgN k) ≤ q / nI (f + dgN k) then f + dgN k else f
theorem dgN_le (k : Nat) : dgN k ≤ 4096 := Nat.div_le_self _ _
theorem dgN_p : ∀ k, k < 13 → 0 < dgN k := by decide
theorem dgN_s : ∀ k, k < 13 → nI (dgN k) / 2 = nI (dgN (k + 1)) := by decide
theorem rtN_le {q : Int32} : ∀ t, rtN q t ≤ 4096 * t := by
  intro t
  induction t with
  | zero => exact Nat.le_refl _
  | succ t ih =>
    have := dgN_le t
    rw [rtN, it_s, ← rtN]
    split <;> omega
theorem qi2 : ¬ (2 : Int32) = 0 := by decide
theorem m_root : hf_rn 155 0 [some (.int i), none, none, none] [] g I J = some (.inl (some (.int (nI (rtN i 13)))), g, I, J) := by
  have loop : ∀ (d t f : Nat) (l3 : Option Value), t + d = 13 → f = rtN i t → hf_rn 155 6 [some (.int i), some (.int (nI f)), some (.int (nI (dgN t))), l3] [] g I J = some (.inl (some (.int (nI (rtN i 13)))), g, I, J) := by
    intro d
    induction d with
    | zero =>
      intro t f l3 ht hf
      have e : t = 13 := by omega
      subst e
      have h0 : nI (dgN 13) ≤ 0 := by decide
      simp only [s155_0, s155_1, s155_2, s155_5, s155_6, s155_7, s155_10, s155_11, s155_12, s155_13, s155_14, s155_15, s155_16, s155_17, s155_18, s155_21, s155_22, s155_25, s155_26, s155_27, s155_28, s155_29, s155_30, s155_34, s155_35, hf_bd_v, hf_bd_n, hf_iv_i, hf_iv_l, hf_iv_a, hf_iv_n, hf_iv_2, z_lgl, z_lgg, z_lge, z_lgle, z_lgz, Option.getD_some, Option.isSome_some, ↓reduceIte, not_true_eq_false, not_false_eq_true, Option.toList_some, Option.toList_none, List.cons_append, List.nil_append, Nat.reduceAdd, Nat.add_assoc, ku_ne, ku_same, ne_eq, Nat.reduceEqDiff, reduceCtorEq, Nat.add_eq_left, Nat.left_eq_add, Nat.reduceEqDiff, q10, q_ne, true_or, or_true, h0, hf]
    | succ d ih =>
      intro t f l3 ht hf
      have hle := @rtN_le i t
      have hd := dgN_le t
      have hp := dgN_p t (by omega)
      have h0 : ¬ nI (dgN t) ≤ 0 := nI_nle hp (by omega)
      have hnz : ¬ nI (f + dgN t) = 0 := nI_ne0 (by omega) (by omega)
      have hds := dgN_s t (by omega)
      have hs : rtN i (t + 1) = if nI (f + dgN t) ≤ i / nI (f + dgN t) then f + dgN t else f := by rw [rtN, it_s, ← rtN, ← hf]
      by_cases hc : nI (f + dgN t) ≤ i / nI (f + dgN t)
      · have hc2 : ¬ i / nI (f + dgN t) < nI (f + dgN t) := by intro c; exact I_nle c hc
        simp only [s155_6, s155_7, s155_10, s155_11, s155_12, s155_13, s155_14, s155_15, s155_16, s155_17, s155_18, s155_21, s155_22, s155_25, s155_26, s155_27, s155_28, s155_29, s155_30, hf_bd_v, hf_bd_n, hf_iv_i, hf_iv_l, hf_iv_a, hf_iv_n, hf_iv_2, z_lgl, z_lgg, z_lge, z_lgle, z_lgz, Option.getD_some, Option.isSome_some, ↓reduceIte, not_true_eq_false, not_false_eq_true, Option.toList_some, Option.toList_none, List.cons_append, List.nil_append, Nat.reduceAdd, Nat.add_assoc, ku_ne, ku_same, ne_eq, Nat.reduceEqDiff, reduceCtorEq, Nat.add_eq_left, Nat.left_eq_add, Nat.reduceEqDiff, q10, q_ne, true_or, or_true, h0, nI_add, hnz, hc, hc2, qi2, hds]
        rw [s155_31]
        exact ih (t + 1) _ _ (by omega) (by rw [hs, if_pos hc])
      · have hc2 : i / nI (f + dgN t) < nI (f + dgN t) := by
          apply Classical.byContradiction
          intro c
          exact hc (I_le c)
        simp only [s155_6, s155_7, s155_10, s155_11, s155_12, s155_13, s155_14, s155_15, s155_16, s155_17, s155_18, s155_21, s155_22, s155_25, s155_26, s155_27, s155_28, s155_29, s155_30, hf_bd_v, hf_bd_n, hf_iv_i, hf_iv_l, hf_iv_a, hf_iv_n, hf_iv_2, z_lgl, z_lgg, z_lge, z_lgle, z_lgz, Option.getD_some, Option.isSome_some, ↓reduceIte, not_true_eq_false, not_false_eq_true, Option.toList_some, Option.toList_none, List.cons_append, List.nil_append, Nat.reduceAdd, Nat.add_assoc, ku_ne, ku_same, ne_eq, Nat.reduceEqDiff, reduceCtorEq, Nat.add_eq_left, Nat.left_eq_add, Nat.reduceEqDiff, q10, q_ne, true_or, or_true, h0, nI_add, hnz, hc, hc2, qi2, hds]
        rw [s155_31]
        exact ih (t + 1) _ _ (by omega) (by rw [hs, if_neg hc])
  simp only [s155_0, s155_1, s155_2, s155_5, hf_bd_v, hf_bd_n, hf_iv_i, hf_iv_l, hf_iv_a, hf_iv_n, hf_iv_2, z_lgl, z_lgg, z_lge, z_lgle, z_lgz, Option.getD_some, Option.isSome_some, ↓reduceIte, not_true_eq_false, not_false_eq_true, Option.toList_some, Option.toList_none, List.cons_append, List.nil_append, Nat.reduceAdd, Nat.add_assoc, ku_ne, ku_same, ne_eq, Nat.reduceEqDiff, reduceCtorEq, Nat.add_eq_left, Nat.left_eq_add, Nat.reduceEqDiff, q10, q_ne, true_or, or_true]
  exact loop 13 0 0 _ rfl rfl
def ltI (i j : Int32) : Int32 := 2048 * (2 * i + 1) / j
theorem m_lattice (h : ¬ j = 0) : hf_rn 159 0 [some (.int i), some (.int j)] [] g I J = some (.inl (some (.int (ltI i j))), g, I, J) := by
  simp only [s159_0, s159_3, s159_4, s159_5, s159_6, s159_7, s159_8, s159_9, s159_10, s159_11, hf_bd_v, hf_bd_n, hf_iv_i, hf_iv_l, hf_iv_a, hf_iv_n, hf_iv_2, z_lgl, z_lgg, z_lge, z_lgle, z_lgz, Option.getD_some, Option.isSome_some, ↓reduceIte, not_true_eq_false, not_false_eq_true, Option.toList_some, Option.toList_none, List.cons_append, List.nil_append, Nat.reduceAdd, Nat.add_assoc, ku_ne, ku_same, ne_eq, Nat.reduceEqDiff, reduceCtorEq, Nat.add_eq_left, Nat.left_eq_add, Nat.reduceEqDiff, q10, q_ne, true_or, or_true, h, ltI]
end
