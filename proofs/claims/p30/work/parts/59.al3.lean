/-! ALBUM: branches, trees -/
section
variable {g : hf_G} {I : hf_I} {J : hf_J} {P G c k m n q a b s : Nat} {u v w : Int64} {j : Int32} {cn : Nat → Nat} {Hs : Nat → Nat → Int64} {nx : Nat → Nat → Option (Nat × Nat)} {e : Int}
theorem nI_dv {a b : Nat} (ha : a < 2147483648) (hb : b < 2147483648) : nI a / nI b = nI (a / b) := by
  rw [nI_iZ, nI_iZ, iZ_div ⟨by omega, by omega⟩ ⟨by omega, by omega⟩ (by omega), nI_iZ]
  congr 1
theorem nI_rm {a b : Nat} (ha : a < 2147483648) (hb : b < 2147483648) : nI a - nI (a / b) * nI b = nI (a % b) := by
  rw [nI_iZ, nI_iZ, nI_iZ, iZ_mul, iZ_sub, nI_iZ]
  congr 1
  have := Nat.div_add_mod a b
  rw [Nat.mul_comm] at this
  have h2 : ((a / b * b + a % b : Nat) : Int) = a := by rw [this]
  rw [Int.natCast_add, Int.natCast_mul] at h2
  omega
theorem qi100 : ¬ (100 : Int32) = 0 := by decide
theorem dv100 {a : Nat} (ha : a < 2147483648) : nI a / 100 = nI (a / 100) := nI_dv ha (show 100 < 2147483648 by decide)
theorem rm100 {a : Nat} (ha : a < 2147483648) : nI a - nI (a / 100) * 100 = nI (a % 100) := nI_rm ha (show 100 < 2147483648 by decide)
theorem cdv {e o : Nat} (ho : o < 100) (he : e < 1000) : nI (100 * e + o) / 100 = nI e := by rw [dv100 (by omega)]; congr 1; omega
theorem crm {e o : Nat} (ho : o < 100) (he : e < 1000) : nI (100 * e + o) - nI e * 100 = nI o := by have h := @rm100 (100 * e + o) (by omega); rw [show (100 * e + o) / 100 = e by omega, show (100 * e + o) % 100 = o by omega] at h; exact h
theorem mfZ_k {i k : Nat} (h64 : ∀ i, i < n → cn i ≤ 64) {p : Int32 × Int32} : ∀ t, t ≤ ctZ n cn e → (mfZ n cn Hs nx i k e p t).1 = p.1 ∨ ∃ o, o < cn e.toNat ∧ 0 ≤ e ∧ e < n ∧ (mfZ n cn Hs nx i k e p t).1 = nI (100 * e.toNat + o) := by
  intro t
  induction t with
  | zero => intro _; exact Or.inl rfl
  | succ t ih =>
    intro ht
    have hs : mfZ n cn Hs nx i k e p (t + 1) = if nx e.toNat t = some (i, k) ∧ (mfZ n cn Hs nx i k e p t).2 < popI (Hs e.toNat t &&& Hs i k) then (nI (100 * e.toNat + t), popI (Hs e.toNat t &&& Hs i k)) else mfZ n cn Hs nx i k e p t := rfl
    rw [hs]
    split
    · obtain ⟨q1, q2, q3⟩ := ctZ_lt (show t < ctZ n cn e by omega)
      exact Or.inr ⟨t, q3, q1, q2, rfl⟩
    · exact ih (by omega)
theorem frA_k (h : Alb g I J n cn Hs nx) {i k : Nat} (hi : i < n) : frA n cn Hs nx i k = -1 ∨ ∃ e o, e < n ∧ o < cn e ∧ frA n cn Hs nx i k = nI (100 * e + o) := by
  have h64 : ∀ i, i < n → cn i ≤ 64 := fun i hi => (h.2.2.2.2.1 i hi).1
  unfold frA
  rcases @mfZ_k n cn Hs nx ((i : Int) - 2) i k h64 (mfZ n cn Hs nx i k ((i : Int) - 1) (-1, 0) (ctZ n cn ((i : Int) - 1))) _ (Nat.le_refl _) with h1 | ⟨o, h1, h2, h3, h4⟩
  · rw [h1]
    rcases @mfZ_k n cn Hs nx ((i : Int) - 1) i k h64 (-1, 0) _ (Nat.le_refl _) with h1 | ⟨o, h1, h2, h3, h4⟩
    · exact Or.inl h1
    · exact Or.inr ⟨_, o, by omega, h1, h4⟩
  · exact Or.inr ⟨_, o, by omega, h1, h4⟩
/-- one hop back -/
def brS (n : Nat) (cn : Nat → Nat) (Hs : Nat → Nat → Int64) (nx : Nat → Nat → Option (Nat × Nat)) (p : Int32 × Int32) : Int32 × Int32 :=
  if p.2 = -1 then p else (p.1 + 1, frA n cn Hs nx (p.2.toNatClampNeg / 100) (p.2.toNatClampNeg % 100))
def brA (n : Nat) (cn : Nat → Nat) (Hs : Nat → Nat → Int64) (nx : Nat → Nat → Option (Nat × Nat)) (i k : Nat) : Int32 := (it 12 (0, nI (100 * i + k)) fun _ p => brS n cn Hs nx p).1
theorem c_branch {i : Nat} (h : Alb g I J n cn Hs nx) (hi : i < n) (hk : k < cn i) : hf_rn 8 0 [some (.ref 13), some (.int (nI i)), some (.int (nI k)), none, none, none] [] g I J = some (.inl (some (.int (brA n cn Hs nx i k))), g, I, J) := by
  have hn := h.2.1
  have loop : ∀ (d t : Nat) (x y : Int32), t + d = 12 → (x, y) = it t (0, nI (100 * i + k)) (fun _ p => brS n cn Hs nx p) → (y = -1 ∨ ∃ e o, e < n ∧ o < cn e ∧ y = nI (100 * e + o)) → hf_rn 8 12 [some (.ref 13), some (.int (nI i)), some (.int (nI k)), some (.int x), some (.int y), some (.int (nI t))] [] g I J = some (.inl (some (.int (brA n cn Hs nx i k))), g, I, J) := by
    intro d
    induction d with
    | zero =>
      intro t x y ht hx hy
      have e : t = 12 := by omega
      subst e
      have h12 : (12 : Int32) ≤ nI 12 := by decide
      have hr : brA n cn Hs nx i k = x := by rw [brA, ← hx]
      simp only [s8_0, s8_1, s8_2, s8_3, s8_4, s8_7, s8_9, s8_10, s8_12, s8_14, s8_16, s8_19, s8_21, s8_22, s8_25, s8_28, s8_29, s8_31, s8_33, s8_34, s8_36, s8_38, s8_39, s8_42, s8_44, s8_50, s8_51, hf_bd_v, hf_bd_n, hf_iv_i, hf_iv_l, hf_iv_a, hf_iv_n, hf_iv_2, z_lgl, z_lgg, z_lge, z_lgle, z_lgz, Option.getD_some, Option.isSome_some, ↓reduceIte, not_true_eq_false, not_false_eq_true, Option.toList_some, Option.toList_none, List.cons_append, List.nil_append, Nat.reduceAdd, Nat.add_assoc, ku_ne, ku_same, ne_eq, Nat.reduceEqDiff, reduceCtorEq, Nat.add_eq_left, Nat.left_eq_add, Nat.reduceEqDiff, q10, q_ne, true_or, or_true, h12, hr]
    | succ d ih =>
      intro t x y ht hx hy
      have h12 : ((12 : Int32) ≤ nI t) = (12 ≤ t) := z_ii (a := 12) (by decide) (by omega)
      have hk1 : ¬ 12 ≤ t := by omega
      by_cases hl : y = -1
      · have hr : brA n cn Hs nx i k = x := by
          rw [brA, show 12 = t + (d + 1) by omega, it_fix (by intro k; rw [← hx, brS, if_pos hl]), ← hx]
        subst hl
        simp only [s8_0, s8_1, s8_2, s8_3, s8_4, s8_7, s8_9, s8_10, s8_12, s8_14, s8_16, s8_19, s8_21, s8_22, s8_25, s8_28, s8_29, s8_31, s8_33, s8_34, s8_36, s8_38, s8_39, s8_42, s8_44, s8_50, s8_51, hf_bd_v, hf_bd_n, hf_iv_i, hf_iv_l, hf_iv_a, hf_iv_n, hf_iv_2, z_lgl, z_lgg, z_lge, z_lgle, z_lgz, Option.getD_some, Option.isSome_some, ↓reduceIte, not_true_eq_false, not_false_eq_true, Option.toList_some, Option.toList_none, List.cons_append, List.nil_append, Nat.reduceAdd, Nat.add_assoc, ku_ne, ku_same, ne_eq, Nat.reduceEqDiff, reduceCtorEq, Nat.add_eq_left, Nat.left_eq_add, Nat.reduceEqDiff, q10, q_ne, true_or, or_true, h12, hk1, hr]
      · obtain ⟨e, o, h1, h2, h3⟩ := hy.resolve_left hl
        have h64 := (h.2.2.2.2.1 e h1).1
        have d1 : (100 * e + o) / 100 = e := by omega
        have d2 : (100 * e + o) % 100 = o := by omega
        have hf := c_from h h1 h2
        have hnl : ¬ nI (100 * e + o) = -1 := by rw [← h3]; exact hl
        have hcl : y.toNatClampNeg = 100 * e + o := by rw [h3, nI_clamp (by omega)]
        simp only [s8_12, s8_14, s8_16, s8_19, s8_21, s8_22, s8_25, s8_28, s8_29, s8_31, s8_33, s8_34, s8_36, s8_38, s8_39, s8_42, s8_44, hf_bd_v, hf_bd_n, hf_iv_i, hf_iv_l, hf_iv_a, hf_iv_n, hf_iv_2, z_lgl, z_lgg, z_lge, z_lgle, z_lgz, Option.getD_some, Option.isSome_some, ↓reduceIte, not_true_eq_false, not_false_eq_true, Option.toList_some, Option.toList_none, List.cons_append, List.nil_append, Nat.reduceAdd, Nat.add_assoc, ku_ne, ku_same, ne_eq, Nat.reduceEqDiff, reduceCtorEq, Nat.add_eq_left, Nat.left_eq_add, Nat.reduceEqDiff, q10, q_ne, true_or, or_true, h12, hk1, h3, hnl, h.1.1, qi100, cdv (show o < 100 by omega) (show e < 1000 by omega), crm (show o < 100 by omega) (show e < 1000 by omega), hf, z_1]
        rw [s8_47]
        exact ih (t + 1) _ _ (by omega) (by rw [it_s, ← hx, brS, if_neg hl, hcl, d1, d2]) (frA_k h h1)
  simp only [s8_0, s8_1, s8_2, s8_3, s8_4, s8_7, s8_9, s8_10, hf_bd_v, hf_bd_n, hf_iv_i, hf_iv_l, hf_iv_a, hf_iv_n, hf_iv_2, z_lgl, z_lgg, z_lge, z_lgle, z_lgz, Option.getD_some, Option.isSome_some, ↓reduceIte, not_true_eq_false, not_false_eq_true, Option.toList_some, Option.toList_none, List.cons_append, List.nil_append, Nat.reduceAdd, Nat.add_assoc, ku_ne, ku_same, ne_eq, Nat.reduceEqDiff, reduceCtorEq, Nat.add_eq_left, Nat.left_eq_add, Nat.reduceEqDiff, q10, q_ne, true_or, or_true, c_codeOf]
  exact loop 12 0 _ _ rfl rfl (Or.inr ⟨i, k, hi, hk, rfl⟩)
/-- goes on in one that is reached -/
def ldP (nx : Nat → Nat → Option (Nat × Nat)) (R : Nat → Int64) (e o : Nat) : Bool := match nx e o with
  | none => false
  | some (j, h) => btL (R j) h
theorem c_leading (h : Alb g I J n cn Hs nx) : hf_rn 11 0 [some (.ref 13), some (.ref (pZ n e)), none, none, none, none] [] g I J = some (.inl (some (.long (orL (ctZ n cn e) (ldP nx (J 33) e.toNat)))), g, I, J) := by
  have hn := h.2.1
  have hP := @al_pz g n e h.1 hn
  have hS := pc_sc1 hP
  have hct := @alb_ct g I J n cn Hs nx e h
  have h64 := @alb_64 g I J n cn Hs nx e h
  have loop : ∀ (d t : Nat) (x : Int64) (l5 : Option Value), t + d = ctZ n cn e → x = orL t (ldP nx (J 33) e.toNat) → hf_rn 11 5 [some (.ref 13), some (.ref (pZ n e)), some (.long x), none, some (.int (nI t)), l5] [] g I J = some (.inl (some (.long (orL (ctZ n cn e) (ldP nx (J 33) e.toNat)))), g, I, J) := by
    intro d
    induction d with
    | zero =>
      intro t x l5 ht hx
      have e1 : t = ctZ n cn e := by omega
      rw [e1]
      rw [e1] at hx
      simp only [s11_0, s11_1, s11_2, s11_3, s11_5, s11_7, s11_8, s11_11, s11_14, s11_17, s11_18, s11_20, s11_23, s11_25, s11_27, s11_28, s11_31, s11_32, s11_35, s11_37, s11_39, s11_40, s11_43, s11_45, s11_47, s11_48, s11_51, s11_54, s11_55, s11_57, s11_60, s11_61, s11_62, s11_68, s11_69, hf_bd_v, hf_bd_n, hf_iv_i, hf_iv_l, hf_iv_a, hf_iv_n, hf_iv_2, z_lgl, z_lgg, z_lge, z_lgle, z_lgz, Option.getD_some, Option.isSome_some, ↓reduceIte, not_true_eq_false, not_false_eq_true, Option.toList_some, Option.toList_none, List.cons_append, List.nil_append, Nat.reduceAdd, Nat.add_assoc, ku_ne, ku_same, ne_eq, Nat.reduceEqDiff, reduceCtorEq, Nat.add_eq_left, Nat.left_eq_add, Nat.reduceEqDiff, q10, q_ne, true_or, or_true, pc_k hP, pc_r0 hP, pc_r1 hP, pc_r2 hP, hS.1, hct, z_ii (show ctZ n cn e < 2147483648 by omega) (show ctZ n cn e < 2147483648 by omega), Nat.le_refl, hx]
    | succ d ih =>
      intro t x l5 ht hx
      have hk1 : ¬ ctZ n cn e ≤ t := by omega
      have htl : t < ctZ n cn e := by omega
      obtain ⟨q1, q2, q3⟩ := ctZ_lt htl
      have hgo := alb_go h htl
      have hxx := alb_nx h (show e.toNat < n by omega) q3
      have hz := z_ii (show ctZ n cn e < 2147483648 by omega) (show t < 2147483648 by omega)
      have hs : ∀ b, ldP nx (J 33) e.toNat t = b → orL (t + 1) (ldP nx (J 33) e.toNat) = if b = true then x ||| bitL t else x := by intro b hb; rw [orL, it_s, ← orL, hx, hb]
      cases hnx : nx e.toNat t with
      | none =>
        rw [hnx] at hgo
        simp only [s11_5, s11_7, s11_8, s11_11, s11_14, s11_17, s11_18, s11_20, s11_23, s11_25, s11_27, s11_28, s11_31, s11_32, s11_35, s11_37, s11_39, s11_40, s11_43, s11_45, s11_47, s11_48, s11_51, s11_54, s11_55, s11_57, s11_60, s11_61, s11_62, hf_bd_v, hf_bd_n, hf_iv_i, hf_iv_l, hf_iv_a, hf_iv_n, hf_iv_2, z_lgl, z_lgg, z_lge, z_lgle, z_lgz, Option.getD_some, Option.isSome_some, ↓reduceIte, not_true_eq_false, not_false_eq_true, Option.toList_some, Option.toList_none, List.cons_append, List.nil_append, Nat.reduceAdd, Nat.add_assoc, ku_ne, ku_same, ne_eq, Nat.reduceEqDiff, reduceCtorEq, Nat.add_eq_left, Nat.left_eq_add, Nat.reduceEqDiff, q10, q_ne, true_or, or_true, pc_k hP, pc_r0 hP, pc_r1 hP, pc_r2 hP, hP.1, hS.1, hct, hz, hk1, z_1, hgo, cdI]
        rw [s11_65]
        exact ih (t + 1) _ _ (by omega) (by rw [hs false (by rw [ldP, hnx])]; rfl)
      | some jh =>
        obtain ⟨jj, hh⟩ := jh
        obtain ⟨p1, p2⟩ := hxx jj hh hnx
        rw [hnx] at hgo
        have hnl : ¬ nI (100 * jj + hh) = -1 := by
          rw [nI_iZ, show (-1 : Int32) = iZ (-1) from rfl, iZ_eq (iRs (by omega) (by omega)) (iRs (by omega) (by omega))]; omega
        have d1 : (100 * jj + hh) / 100 = jj := by omega
        have d2 : (100 * jj + hh) % 100 = hh := by omega
        have hr := al_rw32 h.1
        have hl : ldP nx (J 33) e.toNat t = btL (J 33 jj) hh := by rw [ldP, hnx]
        cases hb : btL (J 33 jj) hh
        · simp only [s11_5, s11_7, s11_8, s11_11, s11_14, s11_17, s11_18, s11_20, s11_23, s11_25, s11_27, s11_28, s11_31, s11_32, s11_35, s11_37, s11_39, s11_40, s11_43, s11_45, s11_47, s11_48, s11_51, s11_54, s11_55, s11_57, s11_60, s11_61, s11_62, hf_bd_v, hf_bd_n, hf_iv_i, hf_iv_l, hf_iv_a, hf_iv_n, hf_iv_2, z_lgl, z_lgg, z_lge, z_lgle, z_lgz, Option.getD_some, Option.isSome_some, ↓reduceIte, not_true_eq_false, not_false_eq_true, Option.toList_some, Option.toList_none, List.cons_append, List.nil_append, Nat.reduceAdd, Nat.add_assoc, ku_ne, ku_same, ne_eq, Nat.reduceEqDiff, reduceCtorEq, Nat.add_eq_left, Nat.left_eq_add, Nat.reduceEqDiff, q10, q_ne, true_or, or_true, pc_k hP, pc_r0 hP, pc_r1 hP, pc_r2 hP, al_k h.1, al_r0 h.1, al_r1 h.1, al_r2 h.1, al_k14 h.1, hP.1, hS.1, hct, hz, hk1, z_1, hgo, cdI, hnl, qi100, cdv (show hh < 100 by omega) (show jj < 1000 by omega), crm (show hh < 100 by omega) (show jj < 1000 by omega), hr.1, c_get hr p1, c_has p2, hb, Bool.false_eq_true]
          rw [s11_65]
          exact ih (t + 1) _ _ (by omega) (by rw [hs false (by rw [hl, hb])]; rfl)
        · simp only [s11_5, s11_7, s11_8, s11_11, s11_14, s11_17, s11_18, s11_20, s11_23, s11_25, s11_27, s11_28, s11_31, s11_32, s11_35, s11_37, s11_39, s11_40, s11_43, s11_45, s11_47, s11_48, s11_51, s11_54, s11_55, s11_57, s11_60, s11_61, s11_62, hf_bd_v, hf_bd_n, hf_iv_i, hf_iv_l, hf_iv_a, hf_iv_n, hf_iv_2, z_lgl, z_lgg, z_lge, z_lgle, z_lgz, Option.getD_some, Option.isSome_some, ↓reduceIte, not_true_eq_false, not_false_eq_true, Option.toList_some, Option.toList_none, List.cons_append, List.nil_append, Nat.reduceAdd, Nat.add_assoc, ku_ne, ku_same, ne_eq, Nat.reduceEqDiff, reduceCtorEq, Nat.add_eq_left, Nat.left_eq_add, Nat.reduceEqDiff, q10, q_ne, true_or, or_true, pc_k hP, pc_r0 hP, pc_r1 hP, pc_r2 hP, al_k h.1, al_r0 h.1, al_r1 h.1, al_r2 h.1, al_k14 h.1, hP.1, hS.1, hct, hz, hk1, z_1, hgo, cdI, hnl, qi100, cdv (show hh < 100 by omega) (show jj < 1000 by omega), crm (show hh < 100 by omega) (show jj < 1000 by omega), hr.1, c_get hr p1, c_has p2, hb, c_bit (show t < 64 by omega)]
          rw [s11_65]
          exact ih (t + 1) _ _ (by omega) (by rw [hs true (by rw [hl, hb])]; rfl)
  simp only [s11_0, s11_1, s11_2, s11_3, hf_bd_v, hf_bd_n, hf_iv_i, hf_iv_l, hf_iv_a, hf_iv_n, hf_iv_2, z_lgl, z_lgg, z_lge, z_lgle, z_lgz, Option.getD_some, Option.isSome_some, ↓reduceIte, not_true_eq_false, not_false_eq_true, Option.toList_some, Option.toList_none, List.cons_append, List.nil_append, Nat.reduceAdd, Nat.add_assoc, ku_ne, ku_same, ne_eq, Nat.reduceEqDiff, reduceCtorEq, Nat.add_eq_left, Nat.left_eq_add, Nat.reduceEqDiff, q10, q_ne, true_or, or_true]
  exact loop (ctZ n cn e) 0 _ _ (by omega) rfl
end
