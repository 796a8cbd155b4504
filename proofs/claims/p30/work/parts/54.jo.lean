/-! JOINING: counts halos by names -/
section
variable {g : hf_G} {I : hf_I} {J : hf_J} {S c k m n q : Nat} {u v w : Int64} {i j : Int32} {N : Nat → Nat} {O : Nat → Int64}
def lN2 (k : Nat) : Int64 := (nI k).toInt64
theorem lN2_z {k : Nat} (h : k < 2147483648) : lN2 k = lZ k := nI_ll h
theorem lN2_eq {a b : Nat} (ha : a < 64) (hb : b < 64) : (lN2 a = lN2 b) = (a = b) := by
  rw [lN2_z (by omega), lN2_z (by omega), lZ_eq ⟨by omega, by omega⟩ ⟨by omega, by omega⟩]
  apply propext
  omega
theorem lN2_i {k : Nat} (h : k < 2147483648) : (lN2 k).toInt32 = nI k := by rw [lN2_z h, lZ_i, nI_iZ]
def nmR (c : Nat) (N : Nat → Nat) (O : Nat → Int64) : Nat → Int64 := fun j => if j < c then lN2 (N j) else O j
theorem nmR_lt (hk : k < c) : nmR c N O k = lN2 (N k) := if_pos hk
theorem nmR_up (hk : k < c) : up (nmR c N O) k (lN2 m) = nmR c (up N k m) O := by
  funext x
  by_cases h1 : x = k
  · subst h1; simp [up, nmR, hk]
  · simp [up, nmR, h1]
def rnN (a b : Nat) (N : Nat → Nat) : Nat → Nat := fun j => if N j = a then b else N j
theorem nmR_cong {M : Nat → Nat} (h : ∀ j, j < c → N j = M j) : nmR c N O = nmR c M O := by
  funext x
  by_cases h1 : x < c
  · simp [nmR, h1, h x h1]
  · simp [nmR, h1]
theorem c_rename (hp : Jo g) (hc2 : c ≤ 64) (hN : ∀ j, j < c → N j < 64) {a b : Nat} (ha : a < 64) (hb : b < 64) : hf_rn 39 0 [some (.ref 249), some (.int (nI c)), some (.long (lN2 a)), none, some (.long (lN2 b)), none, none] [] g I (hf_w J 251 (nmR c N O)) = some (.inl none, g, I, hf_w J 251 (nmR c (rnN a b N) O)) := by
  by_cases hab : a = b
  · subst hab
    have e : rnN a a N = N := by
      funext x
      unfold rnN
      by_cases h : N x = a
      · rw [if_pos h, h]
      · rw [if_neg h]
    rw [e]
    simp only [s39_0, s39_1, s39_3, s39_4, s39_7, s39_8, s39_9, s39_11, s39_13, s39_14, s39_17, s39_18, s39_21, s39_23, s39_26, s39_27, s39_28, s39_31, s39_32, s39_35, s39_37, s39_39, s39_42, s39_45, s39_48, hf_bd_v, hf_bd_n, hf_iv_i, hf_iv_l, hf_iv_a, hf_iv_n, hf_iv_2, z_lgl, z_lgg, z_lge, z_lgle, z_lgz, Option.getD_some, Option.isSome_some, ↓reduceIte, not_true_eq_false, not_false_eq_true, Option.toList_some, Option.toList_none, List.cons_append, List.nil_append, Nat.reduceAdd, Nat.add_assoc, ku_ne, ku_same, ne_eq, Nat.reduceEqDiff, reduceCtorEq, Nat.add_eq_left, Nat.left_eq_add, Nat.reduceEqDiff, q10, q_ne, true_or, or_true]
  · have hab2 : ¬ lN2 a = lN2 b := by rw [lN2_eq ha hb]; exact hab
    have loop : ∀ (d t : Nat), t + d = c → hf_rn 39 11 [some (.ref 249), some (.int (nI c)), some (.long (lN2 a)), none, some (.long (lN2 b)), none, some (.int (nI t))] [] g I (hf_w J 251 (nmR c (fun j => if j < t then rnN a b N j else N j) O)) = some (.inl none, g, I, hf_w J 251 (nmR c (rnN a b N) O)) := by
      intro d
      induction d with
      | zero =>
        intro t ht
        have e : t = c := by omega
        subst e
        rw [nmR_cong (M := rnN a b N) (fun j hj => by rw [if_pos hj])]
        simp only [s39_0, s39_1, s39_3, s39_4, s39_7, s39_8, s39_9, s39_11, s39_13, s39_14, s39_17, s39_18, s39_21, s39_23, s39_26, s39_27, s39_28, s39_31, s39_32, s39_35, s39_37, s39_39, s39_42, s39_48, hf_bd_v, hf_bd_n, hf_iv_i, hf_iv_l, hf_iv_a, hf_iv_n, hf_iv_2, z_lgl, z_lgg, z_lge, z_lgle, z_lgz, Option.getD_some, Option.isSome_some, ↓reduceIte, not_true_eq_false, not_false_eq_true, Option.toList_some, Option.toList_none, List.cons_append, List.nil_append, Nat.reduceAdd, Nat.add_assoc, ku_ne, ku_same, ne_eq, Nat.reduceEqDiff, reduceCtorEq, Nat.add_eq_left, Nat.left_eq_add, Nat.reduceEqDiff, q10, q_ne, true_or, or_true, z_ii (show t < 2147483648 by omega) (show t < 2147483648 by omega), Nat.le_refl]
      | succ d ih =>
        intro t ht
        have hk1 : ¬ c ≤ t := by omega
        have ht64 : t < 64 := by omega
        have hv : nmR c (fun j => if j < t then rnN a b N j else N j) O t = lN2 (N t) := by rw [nmR_lt (by omega)]; simp
        have hz := lN2_eq (hN t (by omega)) ha
        by_cases h : N t = a
        · simp only [s39_11, s39_13, s39_14, s39_17, s39_18, s39_21, s39_23, s39_26, s39_27, s39_28, s39_31, s39_32, s39_35, s39_37, s39_39, s39_42, hf_bd_v, hf_bd_n, hf_iv_i, hf_iv_l, hf_iv_a, hf_iv_n, hf_iv_2, z_lgl, z_lgg, z_lge, z_lgle, z_lgz, Option.getD_some, Option.isSome_some, ↓reduceIte, not_true_eq_false, not_false_eq_true, Option.toList_some, Option.toList_none, List.cons_append, List.nil_append, Nat.reduceAdd, Nat.add_assoc, ku_ne, ku_same, ne_eq, Nat.reduceEqDiff, reduceCtorEq, Nat.add_eq_left, Nat.left_eq_add, Nat.reduceEqDiff, q10, q_ne, true_or, or_true, jo_k hp, jo_r0 hp, jo_r1 hp, z_ii (show c < 2147483648 by omega) (show t < 2147483648 by omega), hk1, z_1, (jo_rw250 hp).1, c_get (jo_rw250 hp) ht64, c_set (jo_rw250 hp) ht64, kw_row, kuw, hv, hz, h]
          rw [s39_45, nmR_up (by omega)]
          have e2 : (up (fun j => if j < t then rnN a b N j else N j) t b) = fun j => if j < t + 1 then rnN a b N j else N j := by
            funext x
            by_cases h1 : x = t
            · subst h1; simp [up, rnN, h]
            · by_cases h2 : x < t
              · simp [up, h1, h2, show x < t + 1 by omega]
              · simp [up, h1, h2, show ¬ x < t + 1 by omega]
          rw [e2]
          exact ih (t + 1) (by omega)
        · simp only [s39_11, s39_13, s39_14, s39_17, s39_18, s39_21, s39_23, s39_26, s39_27, s39_28, s39_31, s39_32, s39_35, s39_37, s39_39, s39_42, hf_bd_v, hf_bd_n, hf_iv_i, hf_iv_l, hf_iv_a, hf_iv_n, hf_iv_2, z_lgl, z_lgg, z_lge, z_lgle, z_lgz, Option.getD_some, Option.isSome_some, ↓reduceIte, not_true_eq_false, not_false_eq_true, Option.toList_some, Option.toList_none, List.cons_append, List.nil_append, Nat.reduceAdd, Nat.add_assoc, ku_ne, ku_same, ne_eq, Nat.reduceEqDiff, reduceCtorEq, Nat.add_eq_left, Nat.left_eq_add, Nat.reduceEqDiff, q10, q_ne, true_or, or_true, jo_k hp, jo_r0 hp, jo_r1 hp, z_ii (show c < 2147483648 by omega) (show t < 2147483648 by omega), hk1, z_1, (jo_rw250 hp).1, c_get (jo_rw250 hp) ht64, kw_row, hv, hz, h]
          rw [s39_45]
          have e2 : (fun j => if j < t then rnN a b N j else N j) = fun j => if j < t + 1 then rnN a b N j else N j := by
            funext x
            by_cases h1 : x = t
            · subst h1; simp [rnN, h]
            · by_cases h2 : x < t
              · simp [h2, show x < t + 1 by omega]
              · simp [h2, show ¬ x < t + 1 by omega]
          rw [e2]
          exact ih (t + 1) (by omega)
    have e0 : (fun j => if j < 0 then rnN a b N j else N j) = N := by funext x; simp
    have key := loop c 0 (by omega)
    rw [e0] at key
    simp only [s39_0, s39_1, s39_3, s39_4, s39_7, s39_8, s39_9, hf_bd_v, hf_bd_n, hf_iv_i, hf_iv_l, hf_iv_a, hf_iv_n, hf_iv_2, z_lgl, z_lgg, z_lge, z_lgle, z_lgz, Option.getD_some, Option.isSome_some, ↓reduceIte, not_true_eq_false, not_false_eq_true, Option.toList_some, Option.toList_none, List.cons_append, List.nil_append, Nat.reduceAdd, Nat.add_assoc, ku_ne, ku_same, ne_eq, Nat.reduceEqDiff, reduceCtorEq, Nat.add_eq_left, Nat.left_eq_add, Nat.reduceEqDiff, q10, q_ne, true_or, or_true, hab2]
    exact key
/-- how many bear each name -/
def beF (c : Nat) (N : Nat → Nat) (O : Nat → Int64) (t : Nat) : Nat → Int64 := it t (fun j => if j < 64 then 0 else O j) fun k B => up B (N k) (B (N k) + 1)
def cnN (B : Nat → Int64) (le : Int32) (t : Nat) : Int32 := it t 0 fun k s => if le.toInt64 ≤ B k then s + 1 else s
theorem c_countNames (hp : Jo g) (hc2 : c ≤ 64) (hN : ∀ j, j < c → N j < 64) : hf_rn 40 0 [some (.ref 249), some (.int (nI c)), some (.int i), none, none] [] g I (hf_w J 251 (nmR c N O)) = some (.inl (some (.int (cnN (beF c N (J 253) c) i c))), g, I, w2 J 251 253 (nmR c N O) (beF c N (J 253) c)) := by
  have loop2 : ∀ (d t : Nat) (x : Int32), t + d = c → x = cnN (beF c N (J 253) c) i t → hf_rn 40 43 [some (.ref 249), some (.int (nI c)), some (.int i), some (.int x), some (.int (nI t))] [] g I (w2 J 251 253 (nmR c N O) (beF c N (J 253) c)) = some (.inl (some (.int (cnN (beF c N (J 253) c) i c))), g, I, w2 J 251 253 (nmR c N O) (beF c N (J 253) c)) := by
    intro d
    induction d with
    | zero =>
      intro t x ht hx
      have e : t = c := by omega
      subst e
      simp only [s40_43, s40_45, s40_46, s40_49, s40_50, s40_53, s40_55, s40_58, s40_59, s40_60, s40_61, s40_64, s40_67, s40_73, s40_74, hf_bd_v, hf_bd_n, hf_iv_i, hf_iv_l, hf_iv_a, hf_iv_n, hf_iv_2, z_lgl, z_lgg, z_lge, z_lgle, z_lgz, Option.getD_some, Option.isSome_some, ↓reduceIte, not_true_eq_false, not_false_eq_true, Option.toList_some, Option.toList_none, List.cons_append, List.nil_append, Nat.reduceAdd, Nat.add_assoc, ku_ne, ku_same, ne_eq, Nat.reduceEqDiff, reduceCtorEq, Nat.add_eq_left, Nat.left_eq_add, Nat.reduceEqDiff, q10, q_ne, true_or, or_true, z_ii (show t < 2147483648 by omega) (show t < 2147483648 by omega), Nat.le_refl, hx]
    | succ d ih =>
      intro t x ht hx
      have hk1 : ¬ c ≤ t := by omega
      have ht64 : t < 64 := by omega
      by_cases hb : i.toInt64 ≤ beF c N (J 253) c t
      · have hb2 : ¬ beF c N (J 253) c t < i.toInt64 := by rw [Int64.lt_iff_toInt_lt]; rw [Int64.le_iff_toInt_le] at hb; omega
        simp only [s40_43, s40_45, s40_46, s40_49, s40_50, s40_53, s40_55, s40_58, s40_59, s40_60, s40_61, s40_64, s40_67, hf_bd_v, hf_bd_n, hf_iv_i, hf_iv_l, hf_iv_a, hf_iv_n, hf_iv_2, z_lgl, z_lgg, z_lge, z_lgle, z_lgz, Option.getD_some, Option.isSome_some, ↓reduceIte, not_true_eq_false, not_false_eq_true, Option.toList_some, Option.toList_none, List.cons_append, List.nil_append, Nat.reduceAdd, Nat.add_assoc, ku_ne, ku_same, ne_eq, Nat.reduceEqDiff, reduceCtorEq, Nat.add_eq_left, Nat.left_eq_add, Nat.reduceEqDiff, q10, q_ne, true_or, or_true, jo_k hp, jo_r0 hp, jo_r1 hp, z_ii (show c < 2147483648 by omega) (show t < 2147483648 by omega), hk1, z_1, (jo_rw252 hp).1, c_get (jo_rw252 hp) ht64, w2_b, hb2]
        rw [s40_70]
        exact ih (t + 1) _ (by omega) (by rw [hx, cnN, cnN, it_s, if_pos hb])
      · have hb2 : beF c N (J 253) c t < i.toInt64 := by rw [Int64.lt_iff_toInt_lt]; rw [Int64.le_iff_toInt_le] at hb; omega
        simp only [s40_43, s40_45, s40_46, s40_49, s40_50, s40_53, s40_55, s40_58, s40_59, s40_60, s40_61, s40_64, s40_67, hf_bd_v, hf_bd_n, hf_iv_i, hf_iv_l, hf_iv_a, hf_iv_n, hf_iv_2, z_lgl, z_lgg, z_lge, z_lgle, z_lgz, Option.getD_some, Option.isSome_some, ↓reduceIte, not_true_eq_false, not_false_eq_true, Option.toList_some, Option.toList_none, List.cons_append, List.nil_append, Nat.reduceAdd, Nat.add_assoc, ku_ne, ku_same, ne_eq, Nat.reduceEqDiff, reduceCtorEq, Nat.add_eq_left, Nat.left_eq_add, Nat.reduceEqDiff, q10, q_ne, true_or, or_true, jo_k hp, jo_r0 hp, jo_r1 hp, z_ii (show c < 2147483648 by omega) (show t < 2147483648 by omega), hk1, z_1, (jo_rw252 hp).1, c_get (jo_rw252 hp) ht64, w2_b, hb2]
        rw [s40_70]
        exact ih (t + 1) _ (by omega) (by rw [hx, cnN, cnN, it_s, if_neg hb])
  have loop : ∀ (d t : Nat), t + d = c → hf_rn 40 10 [some (.ref 249), some (.int (nI c)), some (.int i), some (.int (nI t)), none] [] g I (w2 J 251 253 (nmR c N O) (beF c N (J 253) t)) = some (.inl (some (.int (cnN (beF c N (J 253) c) i c))), g, I, w2 J 251 253 (nmR c N O) (beF c N (J 253) c)) := by
    intro d
    induction d with
    | zero =>
      intro t ht
      have e : t = c := by omega
      subst e
      simp only [s40_10, s40_11, s40_12, s40_15, s40_16, s40_19, s40_20, s40_23, s40_24, s40_27, s40_28, s40_29, s40_32, s40_38, s40_39, s40_40, s40_41, hf_bd_v, hf_bd_n, hf_iv_i, hf_iv_l, hf_iv_a, hf_iv_n, hf_iv_2, z_lgl, z_lgg, z_lge, z_lgle, z_lgz, Option.getD_some, Option.isSome_some, ↓reduceIte, not_true_eq_false, not_false_eq_true, Option.toList_some, Option.toList_none, List.cons_append, List.nil_append, Nat.reduceAdd, Nat.add_assoc, ku_ne, ku_same, ne_eq, Nat.reduceEqDiff, reduceCtorEq, Nat.add_eq_left, Nat.left_eq_add, Nat.reduceEqDiff, q10, q_ne, true_or, or_true, z_ii (show t < 2147483648 by omega) (show t < 2147483648 by omega), Nat.le_refl]
      exact loop2 t 0 0 (by omega) rfl
    | succ d ih =>
      intro t ht
      have hk1 : ¬ c ≤ t := by omega
      have ht64 : t < 64 := by omega
      have hm := hN t (by omega)
      have hv : nmR c N O t = lN2 (N t) := nmR_lt (by omega)
      simp only [s40_10, s40_11, s40_12, s40_15, s40_16, s40_19, s40_20, s40_23, s40_24, s40_27, s40_28, s40_29, s40_32, hf_bd_v, hf_bd_n, hf_iv_i, hf_iv_l, hf_iv_a, hf_iv_n, hf_iv_2, z_lgl, z_lgg, z_lge, z_lgle, z_lgz, Option.getD_some, Option.isSome_some, ↓reduceIte, not_true_eq_false, not_false_eq_true, Option.toList_some, Option.toList_none, List.cons_append, List.nil_append, Nat.reduceAdd, Nat.add_assoc, ku_ne, ku_same, ne_eq, Nat.reduceEqDiff, reduceCtorEq, Nat.add_eq_left, Nat.left_eq_add, Nat.reduceEqDiff, q10, q_ne, true_or, or_true, jo_k hp, jo_r0 hp, jo_r1 hp, z_ii (show c < 2147483648 by omega) (show t < 2147483648 by omega), hk1, z_1, (jo_rw250 hp).1, (jo_rw252 hp).1, c_get (jo_rw250 hp) ht64, w2_a, w2_b, w2_ub, hv, lN2_i (show N t < 2147483648 by omega), c_add (jo_rw252 hp) hm]
      rw [s40_35]
      exact ih (t + 1) (by omega)
  have e : rwm (hf_w J 251 (nmR c N O)) 253 64 (fun _ => 0) = w2 J 251 253 (nmR c N O) (beF c N (J 253) 0) := by
    rw [rwm_w, w2, kw_ne (show 253 ≠ 251 by decide)]
    rfl
  simp only [s40_0, s40_1, s40_4, s40_5, s40_8, s40_9, hf_bd_v, hf_bd_n, hf_iv_i, hf_iv_l, hf_iv_a, hf_iv_n, hf_iv_2, z_lgl, z_lgg, z_lge, z_lgle, z_lgz, Option.getD_some, Option.isSome_some, ↓reduceIte, not_true_eq_false, not_false_eq_true, Option.toList_some, Option.toList_none, List.cons_append, List.nil_append, Nat.reduceAdd, Nat.add_assoc, ku_ne, ku_same, ne_eq, Nat.reduceEqDiff, reduceCtorEq, Nat.add_eq_left, Nat.left_eq_add, Nat.reduceEqDiff, q10, q_ne, true_or, or_true, jo_k hp, jo_r0 hp, jo_r1 hp, (jo_rw252 hp).1, c_fil (jo_rw252 hp), e]
  exact loop c 0 (by omega)
/-- the names after all links -/
def jnN (c : Nat) (L : Nat → Nat → Bool) (lo : Nat) (N : Nat → Nat) (t : Nat) : Nat → Nat := it t N fun t N => if L lo (lo + (1 + t)) = true then rnN (N (lo + (1 + t))) (N lo) N else N
def jnA (c : Nat) (L : Nat → Nat → Bool) (t : Nat) : Nat → Nat := it t (fun j => j) fun lo N => jnN c L lo N (c - (lo + 1))
theorem jnN_s {L : Nat → Nat → Bool} {lo t : Nat} : jnN c L lo N (t + 1) = if L lo (lo + (1 + t)) = true then rnN (jnN c L lo N t (lo + (1 + t))) (jnN c L lo N t lo) (jnN c L lo N t) else jnN c L lo N t := rfl
theorem jnN_lt {L : Nat → Nat → Bool} {lo : Nat} (hlo : lo < c) (hN : ∀ j, j < c → N j < 64) : ∀ t, lo + 1 + t ≤ c → ∀ j, j < c → jnN c L lo N t j < 64 := by
  intro t
  induction t with
  | zero => intro _; exact hN
  | succ t ih =>
    intro ht j hj
    have ih := ih (by omega)
    rw [jnN, it_s, ← jnN]
    split
    · unfold rnN
      split
      · exact ih lo hlo
      · exact ih j hj
    · exact ih j hj
theorem jnA_lt {L : Nat → Nat → Bool} (hc2 : c ≤ 64) : ∀ t, t ≤ c → ∀ j, j < c → jnA c L t j < 64 := by
  intro t
  induction t with
  | zero => intro _ j hj; exact Nat.lt_of_lt_of_le hj hc2
  | succ t ih =>
    intro ht
    rw [jnA, it_s, ← jnA]
    exact jnN_lt (by omega) (ih (by omega)) _ (by omega)
theorem c_countHalos (hp : Jo g) (h : Sc g S) (hS : S + 11 < 249) (hc : I (S + 1) 5 = nI c) (hc2 : c ≤ 64) (hl : I S 4 = i) : hf_rn 38 0 [some (.ref 249), some (.ref S), none, none, none] [] g I J = some (.inl (some (.int (cnN (beF c (jnA c (nrL (J (S + 3)) (J (S + 5)) (J S 3)) c) (J 253) c) i c))), g, I, w2 J 251 253 (nmR c (jnA c (nrL (J (S + 3)) (J (S + 5)) (J S 3)) c) (J 251)) (beF c (jnA c (nrL (J (S + 3)) (J (S + 5)) (J S 3)) c) (J 253) c)) := by
  have hg := sc_gr1 h
  have hL : ∀ (M : Nat → Int64) a b, a < 64 → b < 64 → hf_rn 77 0 [some (.ref S), some (.int (nI a)), some (.int (nI b))] [] g I (hf_w J 251 M) = some (.inl (some (.int (if nrL (J (S + 3)) (J (S + 5)) (J S 3) a b = true then 1 else 0))), g, I, hf_w J 251 M) := by
    intro M a b ha hb
    rw [c_areLinked h ha hb, kw_ne (show S + 3 ≠ 251 by omega), kw_ne (show S + 5 ≠ 251 by omega), kw_ne (show S ≠ 251 by omega)]
  generalize nrL (J (S + 3)) (J (S + 5)) (J S 3) = L at *
  generalize hO : J 251 = O at *
  have inner : ∀ (lo : Nat) (N0 : Nat → Nat) (R : Option hf_R), lo < c → (∀ j, j < c → N0 j < 64) → (∀ l4, hf_rn 38 33 [some (.ref 249), some (.ref S), some (.int (nI c)), some (.int (nI (lo + 1))), l4] [] g I (hf_w J 251 (nmR c (jnN c L lo N0 (c - (lo + 1))) O)) = R) →
      ∀ (d t : Nat), lo + 1 + t + d = c → hf_rn 38 43 [some (.ref 249), some (.ref S), some (.int (nI c)), some (.int (nI lo)), some (.int (nI (lo + (1 + t))))] [] g I (hf_w J 251 (nmR c (jnN c L lo N0 t) O)) = R := by
    intro lo N0 R hlo hN0 hR d
    induction d with
    | zero =>
      intro t ht
      have e : t = c - (lo + 1) := by omega
      have e2 : lo + (1 + t) = c := by omega
      rw [e2]
      simp only [s38_43, s38_45, s38_46, s38_49, s38_50, s38_51, s38_53, s38_56, s38_59, s38_60, s38_61, s38_62, s38_65, s38_67, s38_70, s38_71, s38_74, s38_75, s38_78, s38_81, s38_84, s38_87, hf_bd_v, hf_bd_n, hf_iv_i, hf_iv_l, hf_iv_a, hf_iv_n, hf_iv_2, z_lgl, z_lgg, z_lge, z_lgle, z_lgz, Option.getD_some, Option.isSome_some, ↓reduceIte, not_true_eq_false, not_false_eq_true, Option.toList_some, Option.toList_none, List.cons_append, List.nil_append, Nat.reduceAdd, Nat.add_assoc, ku_ne, ku_same, ne_eq, Nat.reduceEqDiff, reduceCtorEq, Nat.add_eq_left, Nat.left_eq_add, Nat.reduceEqDiff, q10, q_ne, true_or, or_true, z_ii (show c < 2147483648 by omega) (show c < 2147483648 by omega), Nat.le_refl, z_1]
      rw [s38_90, e]
      exact hR _
    | succ d ih =>
      intro t ht
      have hk1 : ¬ c ≤ lo + (1 + t) := by omega
      have hz := z_ii (show c < 2147483648 by omega) (show lo + (1 + t) < 2147483648 by omega)
      have hlo64 : lo < 64 := by omega
      have hhi64 : lo + (1 + t) < 64 := by omega
      have hf := hL (nmR c (jnN c L lo N0 t) O) lo (lo + (1 + t)) hlo64 hhi64
      have hlt := jnN_lt (L := L) hlo hN0 t (by omega)
      have v1 : nmR c (jnN c L lo N0 t) O lo = lN2 (jnN c L lo N0 t lo) := nmR_lt hlo
      have v2 : nmR c (jnN c L lo N0 t) O (lo + (1 + t)) = lN2 (jnN c L lo N0 t (lo + (1 + t))) := nmR_lt (by omega)
      cases hb : L lo (lo + (1 + t))
      · simp only [s38_43, s38_45, s38_46, s38_49, s38_50, s38_51, s38_53, s38_56, s38_59, s38_60, s38_61, s38_62, s38_65, s38_67, s38_70, s38_71, s38_74, s38_75, s38_78, s38_81, hf_bd_v, hf_bd_n, hf_iv_i, hf_iv_l, hf_iv_a, hf_iv_n, hf_iv_2, z_lgl, z_lgg, z_lge, z_lgle, z_lgz, Option.getD_some, Option.isSome_some, ↓reduceIte, not_true_eq_false, not_false_eq_true, Option.toList_some, Option.toList_none, List.cons_append, List.nil_append, Nat.reduceAdd, Nat.add_assoc, ku_ne, ku_same, ne_eq, Nat.reduceEqDiff, reduceCtorEq, Nat.add_eq_left, Nat.left_eq_add, Nat.reduceEqDiff, q10, q_ne, true_or, or_true, h.1, hz, hk1, z_1, hf, hb, Bool.false_eq_true]
        rw [s38_84]
        have := ih (t + 1) (by omega)
        rw [jnN_s, hb] at this
        exact this
      · simp only [s38_43, s38_45, s38_46, s38_49, s38_50, s38_51, s38_53, s38_56, s38_59, s38_60, s38_61, s38_62, s38_65, s38_67, s38_70, s38_71, s38_74, s38_75, s38_78, s38_81, hf_bd_v, hf_bd_n, hf_iv_i, hf_iv_l, hf_iv_a, hf_iv_n, hf_iv_2, z_lgl, z_lgg, z_lge, z_lgle, z_lgz, Option.getD_some, Option.isSome_some, ↓reduceIte, not_true_eq_false, not_false_eq_true, Option.toList_some, Option.toList_none, List.cons_append, List.nil_append, Nat.reduceAdd, Nat.add_assoc, ku_ne, ku_same, ne_eq, Nat.reduceEqDiff, reduceCtorEq, Nat.add_eq_left, Nat.left_eq_add, Nat.reduceEqDiff, q10, q_ne, true_or, or_true, jo_k hp, jo_r0 hp, jo_r1 hp, h.1, hz, hk1, z_1, hf, hb, (jo_rw250 hp).1, c_get (jo_rw250 hp) hlo64, c_get (jo_rw250 hp) hhi64, kw_row, v1, v2, c_rename hp hc2 hlt (hlt _ (show lo + (1 + t) < c by omega)) (hlt lo hlo)]
        rw [s38_84]
        have := ih (t + 1) (by omega)
        rw [jnN_s, hb] at this
        exact this
  have loop2 : ∀ (d lo : Nat) (l4 : Option Value), lo + d = c → hf_rn 38 33 [some (.ref 249), some (.ref S), some (.int (nI c)), some (.int (nI lo)), l4] [] g I (hf_w J 251 (nmR c (jnA c L lo) O)) = some (.inl (some (.int (cnN (beF c (jnA c L c) (J 253) c) i c))), g, I, w2 J 251 253 (nmR c (jnA c L c) O) (beF c (jnA c L c) (J 253) c)) := by
    intro d
    induction d with
    | zero =>
      intro lo l4 hk
      have e : lo = c := by omega
      subst e
      simp only [s38_33, s38_34, s38_35, s38_38, s38_39, s38_40, s38_41, s38_93, s38_94, s38_95, s38_96, s38_99, s38_102, hf_bd_v, hf_bd_n, hf_iv_i, hf_iv_l, hf_iv_a, hf_iv_n, hf_iv_2, z_lgl, z_lgg, z_lge, z_lgle, z_lgz, Option.getD_some, Option.isSome_some, ↓reduceIte, not_true_eq_false, not_false_eq_true, Option.toList_some, Option.toList_none, List.cons_append, List.nil_append, Nat.reduceAdd, Nat.add_assoc, ku_ne, ku_same, ne_eq, Nat.reduceEqDiff, reduceCtorEq, Nat.add_eq_left, Nat.left_eq_add, Nat.reduceEqDiff, q10, q_ne, true_or, or_true, sc_k h, sc_r0 h, sc_r1 h, hp.1, hl, z_ii (show lo < 2147483648 by omega) (show lo < 2147483648 by omega), Nat.le_refl, c_countNames hp hc2 (jnA_lt hc2 lo (Nat.le_refl _))]
    | succ d ih =>
      intro lo l4 hk
      have hk1 : ¬ c ≤ lo := by omega
      simp only [s38_33, s38_34, s38_35, s38_38, s38_39, s38_40, s38_41, hf_bd_v, hf_bd_n, hf_iv_i, hf_iv_l, hf_iv_a, hf_iv_n, hf_iv_2, z_lgl, z_lgg, z_lge, z_lgle, z_lgz, Option.getD_some, Option.isSome_some, ↓reduceIte, not_true_eq_false, not_false_eq_true, Option.toList_some, Option.toList_none, List.cons_append, List.nil_append, Nat.reduceAdd, Nat.add_assoc, ku_ne, ku_same, ne_eq, Nat.reduceEqDiff, reduceCtorEq, Nat.add_eq_left, Nat.left_eq_add, Nat.reduceEqDiff, q10, q_ne, true_or, or_true, z_ii (show c < 2147483648 by omega) (show lo < 2147483648 by omega), hk1, z_1]
      exact inner lo (jnA c L lo) _ (by omega) (jnA_lt hc2 lo (by omega)) (fun l4 => ih (lo + 1) l4 (by omega)) (c - (lo + 1)) 0 (by omega)
  have loop : ∀ (d t : Nat), t + d = c → hf_rn 38 10 [some (.ref 249), some (.ref S), some (.int (nI c)), some (.int (nI t)), none] [] g I (hf_w J 251 (fun j => if j < t then lN2 j else O j)) = some (.inl (some (.int (cnN (beF c (jnA c L c) (J 253) c) i c))), g, I, w2 J 251 253 (nmR c (jnA c L c) O) (beF c (jnA c L c) (J 253) c)) := by
    intro d
    induction d with
    | zero =>
      intro t ht
      have e : t = c := by omega
      subst e
      simp only [s38_10, s38_11, s38_12, s38_15, s38_16, s38_19, s38_20, s38_21, s38_22, s38_25, s38_31, s38_32, hf_bd_v, hf_bd_n, hf_iv_i, hf_iv_l, hf_iv_a, hf_iv_n, hf_iv_2, z_lgl, z_lgg, z_lge, z_lgle, z_lgz, Option.getD_some, Option.isSome_some, ↓reduceIte, not_true_eq_false, not_false_eq_true, Option.toList_some, Option.toList_none, List.cons_append, List.nil_append, Nat.reduceAdd, Nat.add_assoc, ku_ne, ku_same, ne_eq, Nat.reduceEqDiff, reduceCtorEq, Nat.add_eq_left, Nat.left_eq_add, Nat.reduceEqDiff, q10, q_ne, true_or, or_true, z_ii (show t < 2147483648 by omega) (show t < 2147483648 by omega), Nat.le_refl]
      exact loop2 t 0 _ (by omega)
    | succ d ih =>
      intro t ht
      have hk1 : ¬ c ≤ t := by omega
      have ht64 : t < 64 := by omega
      simp only [s38_10, s38_11, s38_12, s38_15, s38_16, s38_19, s38_20, s38_21, s38_22, s38_25, hf_bd_v, hf_bd_n, hf_iv_i, hf_iv_l, hf_iv_a, hf_iv_n, hf_iv_2, z_lgl, z_lgg, z_lge, z_lgle, z_lgz, Option.getD_some, Option.isSome_some, ↓reduceIte, not_true_eq_false, not_false_eq_true, Option.toList_some, Option.toList_none, List.cons_append, List.nil_append, Nat.reduceAdd, Nat.add_assoc, ku_ne, ku_same, ne_eq, Nat.reduceEqDiff, reduceCtorEq, Nat.add_eq_left, Nat.left_eq_add, Nat.reduceEqDiff, q10, q_ne, true_or, or_true, jo_k hp, jo_r0 hp, jo_r1 hp, z_ii (show c < 2147483648 by omega) (show t < 2147483648 by omega), hk1, z_1, (jo_rw250 hp).1, c_set (jo_rw250 hp) ht64, kuw]
      rw [s38_28]
      have e2 : up (fun j => if j < t then lN2 j else O j) t (nI t).toInt64 = fun j => if j < t + 1 then lN2 j else O j := by
        funext x
        by_cases h1 : x = t
        · subst h1; simp [up, lN2]
        · by_cases h2 : x < t
          · simp [up, h1, h2, show x < t + 1 by omega]
          · simp [up, h1, h2, show ¬ x < t + 1 by omega]
      rw [e2]
      exact ih (t + 1) (by omega)
  have e0 : hf_w J 251 (fun j => if j < 0 then lN2 j else O j) = J := by rw [← hO]; exact kw_id (by funext x; simp)
  have key := loop c 0 (by omega)
  rw [e0] at key
  simp only [s38_0, s38_1, s38_4, s38_7, s38_8, s38_9, hf_bd_v, hf_bd_n, hf_iv_i, hf_iv_l, hf_iv_a, hf_iv_n, hf_iv_2, z_lgl, z_lgg, z_lge, z_lgle, z_lgz, Option.getD_some, Option.isSome_some, ↓reduceIte, not_true_eq_false, not_false_eq_true, Option.toList_some, Option.toList_none, List.cons_append, List.nil_append, Nat.reduceAdd, Nat.add_assoc, ku_ne, ku_same, ne_eq, Nat.reduceEqDiff, reduceCtorEq, Nat.add_eq_left, Nat.left_eq_add, Nat.reduceEqDiff, q10, q_ne, true_or, or_true, sc_k h, sc_r0 h, sc_r1 h, hg.1, hc]
  exact key
end
