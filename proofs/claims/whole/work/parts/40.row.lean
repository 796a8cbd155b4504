/-! ROWS (Halofinder$Row): the one place where longs are kept -/
/-- a row of n longs lies at r, its longs behind it -/
def Rw (g : hf_G) (r n : Nat) : Prop := hf_k g r = (0, 5) ∧ hf_r g r 0 = some (r + 1) ∧ hf_k g (r + 1) = (3, n) ∧ n < 2147483648
section
variable {g : hf_G} {r n k : Nat} {I : hf_I} {J : hf_J} {v : Int64}
theorem c_fill (h : Rw g r n) : hf_rn 74 0 [some (.ref r), some (.long v), none, none] [] g I J = some (.inl none, g, I, hf_w J (r + 1) (fun j => if j < n then v else J (r + 1) j)) := by
  obtain ⟨h1, h2, h3, h4⟩ := h
  have loop : ∀ (d k : Nat) (J : hf_J), k + d = n → hf_rn 74 2 [some (.ref r), some (.long v), none, some (.int (nI k))] [] g I J = some (.inl none, g, I, hf_w J (r + 1) (fun j => if k ≤ j ∧ j < n then v else J (r + 1) j)) := by
    intro d
    induction d with
    | zero =>
      intro k J hk
      have hk2 : k = n := by omega
      subst hk2
      simp only [s74_0, s74_1, s74_2, s74_3, s74_4, s74_7, s74_8, s74_11, s74_12, s74_15, s74_16, s74_17, s74_18, s74_21, s74_24, hf_bd_v, hf_bd_n, hf_iv_i, hf_iv_l, hf_iv_a, hf_iv_n, hf_iv_2, z_lgl, z_lgg, z_lge, z_lgle, z_lgz, Option.getD_some, Option.isSome_some, ↓reduceIte, not_true_eq_false, not_false_eq_true, h1, h2, h3, h4, z_ii h4 h4, Nat.le_refl, Nat.reduceLeDiff, and_self]
      rw [kw_id (by funext j; rw [if_neg (by omega)])]
    | succ d ih =>
      intro k J hk
      have hk2 : k < n := by omega
      have hk3 : k < 2147483648 := by omega
      simp only [s74_2, s74_3, s74_4, s74_7, s74_8, s74_11, s74_12, s74_15, s74_16, s74_17, s74_18, hf_bd_v, hf_bd_n, hf_iv_i, hf_iv_l, hf_iv_a, hf_iv_n, hf_iv_2, z_lgl, z_lgg, z_lge, z_lgle, z_lgz, Option.getD_some, Option.isSome_some, ↓reduceIte, not_true_eq_false, not_false_eq_true, h1, h2, h3, h4, z_ii h4 hk3, z_in hk3, z_cl hk3, z_1, Nat.not_le.mpr hk2, Nat.le_refl, Nat.reduceLeDiff, and_self, decide_true, hk2]
      rw [s74_21, ih (k + 1) _ (by omega)]
      congr 4
      rw [ku_as_w, kw_w]
      apply kw_cong
      funext j
      rw [kw_row]
      by_cases e : j = k
      · subst e; simp [hk2]
      · simp only [e, if_false]
        by_cases c : k ≤ j ∧ j < n
        · rw [if_pos c, if_pos (by omega)]
        · rw [if_neg c, if_neg (by omega)]
  simp only [s74_0, s74_1, hf_bd_v, hf_bd_n, hf_iv_i, hf_iv_l, hf_iv_a, hf_iv_n, hf_iv_2, z_lgl, z_lgg, z_lge, z_lgle, z_lgz, Option.getD_some, Option.isSome_some, ↓reduceIte, not_true_eq_false, not_false_eq_true]
  rw [show (0 : Int32) = nI 0 from rfl, loop n 0 J (by omega)]
  simp
end
