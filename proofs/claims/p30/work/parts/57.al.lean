/-! ALBUM -/
/-- the address of a picture; of the one that is nothing -/
def pZ (n : Nat) (e : Int) : Nat := if 0 ≤ e ∧ e < n then 34 + 17 * e.toNat else 15
/-- what goes on in what, as the class keeps it -/
def cdL (o : Option (Nat × Nat)) : Int64 := match o with
  | none => -1
  | some (j, h) => lZ (100 * j + h)
def cdI (o : Option (Nat × Nat)) : Int32 := match o with
  | none => -1
  | some (j, h) => nI (100 * j + h)
def Alb (g : hf_G) (I : hf_I) (J : hf_J) (n : Nat) (cn : Nat → Nat) (Hs : Nat → Nat → Int64) (nx : Nat → Nat → Option (Nat × Nat)) : Prop :=
  Al g ∧ n ≤ 12 ∧ I 13 3 = nI n ∧ I 16 2 = nI 0 ∧ (∀ i, i < n → cn i ≤ 64 ∧ I (34 + 17 * i + 1) 2 = nI (cn i)) ∧ (∀ i, i < n → J (34 + 17 * i + 12) = Hs i) ∧
  (∀ i k, i < n → k < cn i → J (34 + 17 * i + 14) k = cdL (nx i k)) ∧ (∀ i k j h, i < n → k < cn i → nx i k = some (j, h) → i < j ∧ j < n ∧ h < cn j)
section
variable {g : hf_G} {I : hf_I} {J : hf_J} {P G c k m n q a b : Nat} {u v w : Int64} {i j : Int32} {E : Nat → Int64} {cn : Nat → Nat} {Hs : Nat → Nat → Int64} {nx : Nat → Nat → Option (Nat × Nat)} {e : Int}
theorem iRs {a : Int} (h1 : -100000 ≤ a) (h2 : a ≤ 100000) : iR a := ⟨by omega, by omega⟩
theorem nI_m1 (a : Nat) : nI a - 1 = iZ (a - 1) := by rw [nI_iZ, show (1 : Int32) = iZ 1 from rfl, iZ_sub]
theorem nI_m2 (a : Nat) : nI a - 2 = iZ (a - 2) := by rw [nI_iZ, show (2 : Int32) = iZ 2 from rfl, iZ_sub]
theorem iZ_d (a : Int) : iZ a + -1 = iZ (a - 1) := by rw [show (-1 : Int32) = iZ (-1) from rfl, iZ_add]; rfl
theorem c_has2 (hA : Al g) (hn : I 13 3 = nI n) (hn2 : n ≤ 12) (h1 : -100 ≤ e) (h2 : e ≤ 100) : hf_rn 2 0 [some (.ref 13), some (.int (iZ e))] [] g I J = some (.inl (some (.int (if 0 ≤ e ∧ e < n then 1 else 0))), g, I, J) := by
  have e0 : (iZ e < 0) = (e < 0) := by rw [show (0 : Int32) = iZ 0 from rfl, iZ_lt (iRs (by omega) (by omega)) (iRs (by omega) (by omega))]
  have e1 : (nI n ≤ iZ e) = ((n : Int) ≤ e) := by rw [nI_iZ, iZ_le (iRs (by omega) (by omega)) (iRs (by omega) (by omega))]
  by_cases c0 : e < 0
  · have c1 : ¬ (0 ≤ e ∧ e < n) := by omega
    simp only [s2_0, s2_1, s2_4, s2_5, s2_6, s2_9, s2_12, s2_13, s2_16, s2_17, hf_bd_v, hf_bd_n, hf_iv_i, hf_iv_l, hf_iv_a, hf_iv_n, hf_iv_2, z_lgl, z_lgg, z_lge, z_lgle, z_lgz, Option.getD_some, Option.isSome_some, ↓reduceIte, not_true_eq_false, not_false_eq_true, Option.toList_some, Option.toList_none, List.cons_append, List.nil_append, Nat.reduceAdd, Nat.add_assoc, ku_ne, ku_same, ne_eq, Nat.reduceEqDiff, reduceCtorEq, Nat.add_eq_left, Nat.left_eq_add, Nat.reduceEqDiff, q10, q_ne, true_or, or_true, al_k hA, al_r0 hA, al_r1 hA, al_r2 hA, al_k14 hA, e0, c0, c1]
  · by_cases c2 : (n : Int) ≤ e
    · have c1 : ¬ (0 ≤ e ∧ e < n) := by omega
      simp only [s2_0, s2_1, s2_4, s2_5, s2_6, s2_9, s2_12, s2_13, s2_16, s2_17, hf_bd_v, hf_bd_n, hf_iv_i, hf_iv_l, hf_iv_a, hf_iv_n, hf_iv_2, z_lgl, z_lgg, z_lge, z_lgle, z_lgz, Option.getD_some, Option.isSome_some, ↓reduceIte, not_true_eq_false, not_false_eq_true, Option.toList_some, Option.toList_none, List.cons_append, List.nil_append, Nat.reduceAdd, Nat.add_assoc, ku_ne, ku_same, ne_eq, Nat.reduceEqDiff, reduceCtorEq, Nat.add_eq_left, Nat.left_eq_add, Nat.reduceEqDiff, q10, q_ne, true_or, or_true, al_k hA, al_r0 hA, al_r1 hA, al_r2 hA, al_k14 hA, e0, c0, hn, e1, c2, c1]
    · have c1 : 0 ≤ e ∧ e < n := by omega
      simp only [s2_0, s2_1, s2_4, s2_5, s2_6, s2_9, s2_12, s2_13, s2_16, s2_17, hf_bd_v, hf_bd_n, hf_iv_i, hf_iv_l, hf_iv_a, hf_iv_n, hf_iv_2, z_lgl, z_lgg, z_lge, z_lgle, z_lgz, Option.getD_some, Option.isSome_some, ↓reduceIte, not_true_eq_false, not_false_eq_true, Option.toList_some, Option.toList_none, List.cons_append, List.nil_append, Nat.reduceAdd, Nat.add_assoc, ku_ne, ku_same, ne_eq, Nat.reduceEqDiff, reduceCtorEq, Nat.add_eq_left, Nat.left_eq_add, Nat.reduceEqDiff, q10, q_ne, true_or, or_true, al_k hA, al_r0 hA, al_r1 hA, al_r2 hA, al_k14 hA, e0, c0, hn, e1, c2, c1, and_self]
theorem c_at (hA : Al g) (hn : I 13 3 = nI n) (hn2 : n ≤ 12) (h1 : -100 ≤ e) (h2 : e ≤ 100) : hf_rn 3 0 [some (.ref 13), some (.int (iZ e)), none] [] g I J = some (.inl (some (.ref (pZ n e))), g, I, J) := by
  have hh := c_has2 (I := I) (J := J) hA hn hn2 h1 h2
  by_cases c1 : 0 ≤ e ∧ e < n
  · obtain ⟨t, rfl⟩ : ∃ t : Nat, e = t := ⟨e.toNat, by omega⟩
    rw [if_pos c1] at hh
    rw [← nI_iZ] at hh ⊢
    have ht : t < 12 := by omega
    have e1 : (nI 12 ≤ nI t) = (12 ≤ t) := z_ii (by decide) (by omega)
    have hp : hf_r g 14 t = some (34 + 17 * t) := al_ps hA t ht
    have e3 : pZ n t = 34 + 17 * t := by rw [pZ, if_pos c1]; rfl
    simp only [s3_0, s3_1, s3_2, s3_5, s3_8, s3_9, s3_10, s3_13, s3_14, s3_17, s3_18, s3_21, s3_22, s3_23, s3_26, s3_27, s3_30, s3_31, s3_32, s3_42, s3_43, hf_bd_v, hf_bd_n, hf_iv_i, hf_iv_l, hf_iv_a, hf_iv_n, hf_iv_2, z_lgl, z_lgg, z_lge, z_lgle, z_lgz, Option.getD_some, Option.isSome_some, ↓reduceIte, not_true_eq_false, not_false_eq_true, Option.toList_some, Option.toList_none, List.cons_append, List.nil_append, Nat.reduceAdd, Nat.add_assoc, ku_ne, ku_same, ne_eq, Nat.reduceEqDiff, reduceCtorEq, Nat.add_eq_left, Nat.left_eq_add, Nat.reduceEqDiff, q10, q_ne, true_or, or_true, hA.1, al_k hA, al_r0 hA, al_r1 hA, al_r2 hA, al_k14 hA, hh, e1, Nat.not_le.mpr ht, Nat.reduceLeDiff, Nat.reduceLT, and_self, z_in (show t < 2147483648 by omega), ht, decide_true, z_cl (show t < 2147483648 by omega), hp, e3]
  · rw [if_neg c1] at hh
    have e3 : pZ n e = 15 := by rw [pZ, if_neg c1]
    simp only [s3_0, s3_1, s3_2, s3_5, s3_8, s3_9, s3_10, s3_13, s3_14, s3_17, s3_18, s3_21, s3_22, s3_23, s3_26, s3_27, s3_30, s3_31, s3_32, s3_42, s3_43, hf_bd_v, hf_bd_n, hf_iv_i, hf_iv_l, hf_iv_a, hf_iv_n, hf_iv_2, z_lgl, z_lgg, z_lge, z_lgle, z_lgz, Option.getD_some, Option.isSome_some, ↓reduceIte, not_true_eq_false, not_false_eq_true, Option.toList_some, Option.toList_none, List.cons_append, List.nil_append, Nat.reduceAdd, Nat.add_assoc, ku_ne, ku_same, ne_eq, Nat.reduceEqDiff, reduceCtorEq, Nat.add_eq_left, Nat.left_eq_add, Nat.reduceEqDiff, q10, q_ne, true_or, or_true, hA.1, al_k hA, al_r0 hA, al_r1 hA, al_r2 hA, al_k14 hA, hh, e3]
theorem c_codeOf : hf_rn 5 0 [some (.int (nI k)), some (.int (nI m))] [] g I J = some (.inl (some (.int (nI (100 * k + m)))), g, I, J) := by
  simp only [s5_0, s5_2, s5_3, s5_4, s5_5, s5_6, hf_bd_v, hf_bd_n, hf_iv_i, hf_iv_l, hf_iv_a, hf_iv_n, hf_iv_2, z_lgl, z_lgg, z_lge, z_lgle, z_lgz, Option.getD_some, Option.isSome_some, ↓reduceIte, not_true_eq_false, not_false_eq_true, Option.toList_some, Option.toList_none, List.cons_append, List.nil_append, Nat.reduceAdd, Nat.add_assoc, ku_ne, ku_same, ne_eq, Nat.reduceEqDiff, reduceCtorEq, Nat.add_eq_left, Nat.left_eq_add, Nat.reduceEqDiff, q10, q_ne, true_or, or_true, show (100 : Int32) = nI 100 from rfl, nI_mul, nI_add]
end
