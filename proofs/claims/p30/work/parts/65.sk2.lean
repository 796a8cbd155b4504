/-! SKY: spectra are given -/
section
variable {g : hf_G} {I : hf_I} {J : hf_J} {G c k m n : Nat} {u v w : Int64} {i j : Int32} {S T P D : Nat → Int64}
/-- how many are not asked -/
def c2 (S : Nat → Int64) (n : Nat) : Nat := it n 0 fun k s => if S k = 2 then s + 1 else s
theorem c2_s : c2 S (n + 1) = if S n = 2 then c2 S n + 1 else c2 S n := rfl
theorem c2_all : ∀ n, (∀ k, k < n → S k = 2) → c2 S n = n := by
  intro n
  induction n with
  | zero => intro _; rfl
  | succ n ih => intro h; rw [c2_s, if_pos (h n (by omega)), ih fun k hk => h k (by omega)]
theorem c2_ex : ∀ n, 0 < c2 S n → ∃ k, k < n ∧ S k = 2 := by
  intro n
  induction n with
  | zero => intro h; exact absurd h (Nat.lt_irrefl 0)
  | succ n ih =>
    intro h
    rw [c2_s] at h
    by_cases c : S n = 2
    · exact ⟨n, by omega, c⟩
    · rw [if_neg c] at h
      obtain ⟨k, h1, h2⟩ := ih h
      exact ⟨k, by omega, h2⟩
theorem c2_up {b : Nat} (hv : v ≠ 2) (hb : S b = 2) : ∀ n, c2 (up S b v) n = if b < n then c2 S n - 1 else c2 S n := by
  intro n
  induction n with
  | zero => rfl
  | succ n ih =>
    rw [c2_s, c2_s, ih]
    by_cases c : n = b
    · subst c
      rw [up_s, if_neg hv, if_pos hb]
      simp
    · rw [up_n c]
      by_cases d : b < n
      · have hpos : 0 < c2 S n := by
          clear ih
          induction n with
          | zero => omega
          | succ m ihm =>
            rw [c2_s]
            by_cases e : b = m
            · subst e; rw [if_pos hb]; omega
            · have := ihm (by omega) (by omega)
              split <;> omega
        simp only [d, if_true, show b < n + 1 by omega]
        split <;> omega
      · simp only [d, if_false, show ¬ b < n + 1 by omega]
theorem brF_s : brF S T (n + 1) = if S n = 2 ∧ (brF S T n).2 < T n then (nI n, T n) else brF S T n := rfl
theorem brF_k (hT : ∀ k, k < n → 0 < T k) : ∀ t, t ≤ n → ((brF S T t).1 = -1 ∧ (brF S T t).2 = 0 ∧ ∀ k, k < t → S k ≠ 2) ∨ ∃ k, k < t ∧ S k = 2 ∧ (brF S T t).1 = nI k := by
  intro t
  induction t with
  | zero => intro _; exact Or.inl ⟨rfl, rfl, fun k hk => absurd hk (by omega)⟩
  | succ t ih =>
    intro ht
    rw [brF_s]
    by_cases c : S t = 2 ∧ (brF S T t).2 < T t
    · rw [if_pos c]
      exact Or.inr ⟨t, by omega, c.1, rfl⟩
    · rw [if_neg c]
      rcases ih (by omega) with ⟨h1, h2, h3⟩ | ⟨k, h1, h2, h3⟩
      · refine Or.inl ⟨h1, h2, fun k hk => ?_⟩
        by_cases e : k = t
        · subst e
          intro hs
          apply c
          rw [h2]
          exact ⟨hs, hT k (by omega)⟩
        · exact h3 k (by omega)
      · exact Or.inr ⟨k, by omega, h2, h3⟩
/-- one spectrum is given -/
def gsS (n : Nat) (T P D : Nat → Int64) (f : Int64) (S : Nat → Int64) : Nat → Int64 :=
  up S (brF S T n).1.toNatClampNeg (if exB (nearS S P D f (brF S T n).1.toNatClampNeg) n 0 = true then 0 else 1)
def gsF (n : Nat) (T P D : Nat → Int64) (f : Int64) (S : Nat → Int64) (t : Nat) : Nat → Int64 := it t (fun j => if j < 768 then 2 else S j) fun _ S => gsS n T P D f S
theorem c_give (h : Sk g) (hn : I 257 6 = nI n) (hn2 : n ≤ 768) (hT : ∀ k, k < n → 0 < J 267 k) : hf_rn 95 0 [some (.ref 257), none, none] [] g I J = some (.inl none, g, I, hf_w J 269 (gsF n (J 267) (J 265) (J 261) (J 257 11) (J 269) n)) := by
  have loop : ∀ (d t : Nat) (S : Nat → Int64) (l2 : Option Value), t + d = n → S = gsF n (J 267) (J 265) (J 261) (J 257 11) (J 269) t → c2 S n = d → hf_rn 95 12 [some (.ref 257), some (.int (nI t)), l2] [] g I (hf_w J 269 S) = some (.inl none, g, I, hf_w J 269 (gsF n (J 267) (J 265) (J 261) (J 257 11) (J 269) n)) := by
    intro d
    induction d with
    | zero =>
      intro t S l2 ht hS _
      have e : t = n := by omega
      subst e
      rw [hS]
      simp only [s95_0, s95_1, s95_4, s95_7, s95_10, s95_11, s95_12, s95_13, s95_14, s95_17, s95_20, s95_21, s95_24, s95_25, s95_26, s95_29, s95_30, s95_31, s95_32, s95_35, s95_38, s95_39, s95_42, s95_43, s95_46, s95_52, hf_bd_v, hf_bd_n, hf_iv_i, hf_iv_l, hf_iv_a, hf_iv_n, hf_iv_2, z_lgl, z_lgg, z_lge, z_lgle, z_lgz, Option.getD_some, Option.isSome_some, ↓reduceIte, not_true_eq_false, not_false_eq_true, Option.toList_some, Option.toList_none, List.cons_append, List.nil_append, Nat.reduceAdd, Nat.add_assoc, ku_ne, ku_same, ne_eq, Nat.reduceEqDiff, reduceCtorEq, Nat.add_eq_left, Nat.left_eq_add, Nat.reduceEqDiff, q10, q_ne, true_or, or_true, sk_k h, sk_r0 h, sk_r1 h, sk_r2 h, sk_r3 h, sk_r4 h, sk_r5 h, hn, z_ii (show t < 2147483648 by omega) (show t < 2147483648 by omega), Nat.le_refl]
    | succ d ih =>
      intro t S l2 ht hS hcc
      have hk1 : ¬ n ≤ t := by omega
      obtain ⟨k2, k3, k4⟩ := c2_ex (S := S) n (by omega)
      obtain ⟨b, b1, b2, b3⟩ := (brF_k (S := S) hT n (Nat.le_refl _)).resolve_left (fun c => c.2.2 k2 k3 k4)
      have hbr := c_brightest (I := I) (J := hf_w J 269 S) h hn hn2
      rw [kw_row, kw_ne (show 267 ≠ 269 by decide), b3] at hbr
      have hfr := c_isFree (I := I) (J := hf_w J 269 S) h hn hn2 (show b < 768 by omega)
      rw [kw_row, kw_ne (show 265 ≠ 269 by decide), kw_ne (show 261 ≠ 269 by decide), kw_ne (show 257 ≠ 269 by decide)] at hfr
      have hcl : (brF S (J 267) n).1.toNatClampNeg = b := by rw [b3, nI_clamp (by omega)]
      have hg : gsF n (J 267) (J 265) (J 261) (J 257 11) (J 269) (t + 1) = up S b (if exB (nearS S (J 265) (J 261) (J 257 11) b) n 0 = true then 0 else 1) := by rw [gsF, it_s, ← gsF, ← hS, gsS, hcl]
      have hr := sk_rw268 h
      cases hx : exB (nearS S (J 265) (J 261) (J 257 11) b) n 0
      · rw [hx] at hfr hg
        simp only [s95_12, s95_13, s95_14, s95_17, s95_20, s95_21, s95_24, s95_25, s95_26, s95_29, s95_30, s95_31, s95_32, s95_35, s95_38, s95_39, s95_42, s95_43, s95_46, hf_bd_v, hf_bd_n, hf_iv_i, hf_iv_l, hf_iv_a, hf_iv_n, hf_iv_2, z_lgl, z_lgg, z_lge, z_lgle, z_lgz, Option.getD_some, Option.isSome_some, ↓reduceIte, not_true_eq_false, not_false_eq_true, Option.toList_some, Option.toList_none, List.cons_append, List.nil_append, Nat.reduceAdd, Nat.add_assoc, ku_ne, ku_same, ne_eq, Nat.reduceEqDiff, reduceCtorEq, Nat.add_eq_left, Nat.left_eq_add, Nat.reduceEqDiff, q10, q_ne, true_or, or_true, sk_k h, sk_r0 h, sk_r1 h, sk_r2 h, sk_r3 h, sk_r4 h, sk_r5 h, h.1, hn, z_ii (show n < 2147483648 by omega) (show t < 2147483648 by omega), hk1, z_1, hbr, hfr, Bool.false_eq_true, hr.1, c_set hr (show b < 768 by omega), kuw]
        rw [s95_49]
        exact ih (t + 1) _ _ (by omega) (by rw [hg]; rfl) (by rw [c2_up (by decide) b2, if_pos b1]; omega)
      · rw [hx] at hfr hg
        simp only [s95_12, s95_13, s95_14, s95_17, s95_20, s95_21, s95_24, s95_25, s95_26, s95_29, s95_30, s95_31, s95_32, s95_35, s95_38, s95_39, s95_42, s95_43, s95_46, hf_bd_v, hf_bd_n, hf_iv_i, hf_iv_l, hf_iv_a, hf_iv_n, hf_iv_2, z_lgl, z_lgg, z_lge, z_lgle, z_lgz, Option.getD_some, Option.isSome_some, ↓reduceIte, not_true_eq_false, not_false_eq_true, Option.toList_some, Option.toList_none, List.cons_append, List.nil_append, Nat.reduceAdd, Nat.add_assoc, ku_ne, ku_same, ne_eq, Nat.reduceEqDiff, reduceCtorEq, Nat.add_eq_left, Nat.left_eq_add, Nat.reduceEqDiff, q10, q_ne, true_or, or_true, sk_k h, sk_r0 h, sk_r1 h, sk_r2 h, sk_r3 h, sk_r4 h, sk_r5 h, h.1, hn, z_ii (show n < 2147483648 by omega) (show t < 2147483648 by omega), hk1, z_1, hbr, hfr, hr.1, c_set hr (show b < 768 by omega), kuw]
        rw [s95_49]
        exact ih (t + 1) _ _ (by omega) (by rw [hg]; rfl) (by rw [c2_up (by decide) b2, if_pos b1]; omega)
  have e : rwm J 269 768 (fun _ => 2) = hf_w J 269 (gsF n (J 267) (J 265) (J 261) (J 257 11) (J 269) 0) := rfl
  simp only [s95_0, s95_1, s95_4, s95_7, s95_10, s95_11, hf_bd_v, hf_bd_n, hf_iv_i, hf_iv_l, hf_iv_a, hf_iv_n, hf_iv_2, z_lgl, z_lgg, z_lge, z_lgle, z_lgz, Option.getD_some, Option.isSome_some, ↓reduceIte, not_true_eq_false, not_false_eq_true, Option.toList_some, Option.toList_none, List.cons_append, List.nil_append, Nat.reduceAdd, Nat.add_assoc, ku_ne, ku_same, ne_eq, Nat.reduceEqDiff, reduceCtorEq, Nat.add_eq_left, Nat.left_eq_add, Nat.reduceEqDiff, q10, q_ne, true_or, or_true, sk_k h, sk_r0 h, sk_r1 h, sk_r2 h, sk_r3 h, sk_r4 h, sk_r5 h, (sk_rw268 h).1, c_fil (sk_rw268 h), e]
  exact loop n 0 _ _ (by omega) rfl (c2_all n fun k hk => by rw [gsF, it_0, if_pos (by omega)])
end
