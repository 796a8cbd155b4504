/-! THE FACE: what is needed -/
section
variable {g : hf_G} {I : hf_I} {J : hf_J} {S a b c k m n s p q : Nat} {u v w : Int64} {i j x y : Int32}
theorem c_needRange (he : hf_n g < 1000000) : hf_rn 145 0 [some (.int i), some (.int x), some (.int y)] [] g I J = if x ≤ i ∧ i ≤ y then some (.inl none, g, I, J) else some (.inr 1, hf_th g, I, J) := by
  by_cases h1 : i < x
  · rw [if_neg (fun c => I_nle h1 c.1)]
    simp only [s145_0, s145_1, s145_2, s145_5, s145_6, s145_7, s145_10, s145_21, hf_bd_v, hf_bd_n, hf_iv_i, hf_iv_l, hf_iv_a, hf_iv_n, hf_iv_2, z_lgl, z_lgg, z_lge, z_lgle, z_lgz, Option.getD_some, Option.isSome_some, ↓reduceIte, not_true_eq_false, not_false_eq_true, Option.toList_some, Option.toList_none, List.cons_append, List.nil_append, Nat.reduceAdd, Nat.add_assoc, ku_ne, ku_same, ne_eq, Nat.reduceEqDiff, reduceCtorEq, Nat.add_eq_left, Nat.left_eq_add, Nat.reduceEqDiff, q10, q_ne, true_or, or_true, h1]
  · by_cases h2 : i ≤ y
    · rw [if_pos ⟨I_le h1, h2⟩]
      simp only [s145_0, s145_1, s145_2, s145_5, s145_6, s145_7, s145_10, s145_21, hf_bd_v, hf_bd_n, hf_iv_i, hf_iv_l, hf_iv_a, hf_iv_n, hf_iv_2, z_lgl, z_lgg, z_lge, z_lgle, z_lgz, Option.getD_some, Option.isSome_some, ↓reduceIte, not_true_eq_false, not_false_eq_true, Option.toList_some, Option.toList_none, List.cons_append, List.nil_append, Nat.reduceAdd, Nat.add_assoc, ku_ne, ku_same, ne_eq, Nat.reduceEqDiff, reduceCtorEq, Nat.add_eq_left, Nat.left_eq_add, Nat.reduceEqDiff, q10, q_ne, true_or, or_true, h1, h2]
    · rw [if_neg (fun c => h2 c.2)]
      simp only [s145_0, s145_1, s145_2, s145_5, s145_6, s145_7, s145_10, s145_21, hf_bd_v, hf_bd_n, hf_iv_i, hf_iv_l, hf_iv_a, hf_iv_n, hf_iv_2, z_lgl, z_lgg, z_lge, z_lgle, z_lgz, Option.getD_some, Option.isSome_some, ↓reduceIte, not_true_eq_false, not_false_eq_true, Option.toList_some, Option.toList_none, List.cons_append, List.nil_append, Nat.reduceAdd, Nat.add_assoc, ku_ne, ku_same, ne_eq, Nat.reduceEqDiff, reduceCtorEq, Nat.add_eq_left, Nat.left_eq_add, Nat.reduceEqDiff, q10, q_ne, true_or, or_true, h1, h2]
end
