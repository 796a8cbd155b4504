/-! ALBUM: what goes on in what is found -/
section
variable {g : hf_G} {I : hf_I} {J J2 : hf_J} {P G c k m n q a b s i l : Nat} {u v w : Int64} {j : Int32} {cn : Nat → Nat} {Hs : Nat → Nat → Int64} {nx : Nat → Nat → Option (Nat × Nat)} {e : Int}
theorem moF_k {H : Nat → Int64} : ∀ t, (moF H w t).1 = -1 ∨ ∃ k, k < t ∧ (moF H w t).1 = nI k := by
  intro t
  induction t with
  | zero => exact Or.inl rfl
  | succ t ih =>
    have hs : moF H w (t + 1) = if (moF H w t).2 < popI (H t &&& w) then (nI t, popI (H t &&& w)) else moF H w t := rfl
    rw [hs]
    split
    · exact Or.inr ⟨t, by omega, rfl⟩
    · rcases ih with h | ⟨k, h1, h2⟩
      · exact Or.inl h
      · exact Or.inr ⟨k, by omega, h2⟩
/-- the heir in a later picture -/
def lgX (cn : Nat → Nat) (Hs : Nat → Nat → Int64) (l i k : Nat) : Option (Nat × Nat) := if (moF (Hs l) (Hs i k) (cn l)).1 = -1 then none else some (l, (moF (Hs l) (Hs i k) (cn l)).1.toNatClampNeg)
def lgN (cn : Nat → Nat) (Hs : Nat → Nat → Int64) (nx : Nat → Nat → Option (Nat × Nat)) (l i : Nat) : Nat → Nat → Option (Nat × Nat) := fun x k => if x = i ∧ nx x k = none then lgX cn Hs l i k else nx x k
def lgO (cn : Nat → Nat) (Hs : Nat → Nat → Int64) (nx : Nat → Nat → Option (Nat × Nat)) (l i : Nat) (O : Nat → Int64) (t : Nat) : Nat → Int64 := fun k => if k < t ∧ nx i k = none then cdL (lgX cn Hs l i k) else O k
theorem c_letOn (h : Alb g I J n cn Hs nx) (hl : l < n) (hi : i < l) : hf_rn 6 0 [some (.ref 13), some (.int (nI i)), some (.int (nI l)), none, none, none] [] g I J = some (.inl none, g, I, hf_w J (34 + 17 * i + 14) (lgO cn Hs nx l i (J (34 + 17 * i + 14)) (cn i))) := by
  have hn := h.2.1
  have hA := h.1
  obtain ⟨A, hAd⟩ : ∃ A, A = 34 + 17 * i := ⟨_, rfl⟩
  have hP : Pc g A := by rw [hAd]; exact al_pc hA i (by omega)
  have hS := pc_sc1 hP
  have hci : cn i ≤ 64 ∧ I (A + 1) 2 = nI (cn i) := by rw [hAd]; exact h.2.2.2.2.1 i (by omega)
  have hH : J (A + 12) = Hs i := by rw [hAd]; exact h.2.2.2.2.2.1 i (by omega)
  have hO : ∀ k, k < cn i → J (A + 14) k = cdL (nx i k) := by rw [hAd]; exact fun k hk => h.2.2.2.2.2.2.1 i k (by omega) hk
  obtain ⟨B, hBd⟩ : ∃ B, B = 34 + 17 * l := ⟨_, rfl⟩
  have hP2 : Pc g B := by rw [hBd]; exact al_pc hA l (by omega)
  have hS2 := pc_sc1 hP2
  have hcl : cn l ≤ 64 ∧ I (B + 1) 2 = nI (cn l) := by rw [hBd]; exact h.2.2.2.2.1 l (by omega)
  have hH2 : J (B + 12) = Hs l := by rw [hBd]; exact h.2.2.2.2.2.1 l (by omega)
  have hat1 : ∀ (J : hf_J), hf_rn 3 0 [some (.ref 13), some (.int (nI i)), none] [] g I J = some (.inl (some (.ref A)), g, I, J) := by
    intro J
    rw [nI_iZ, c_at hA h.2.2.1 hn (by omega) (by omega), pZ_in (by omega) (by omega), hAd]
    rfl
  have hat2 : ∀ (J : hf_J), hf_rn 3 0 [some (.ref 13), some (.int (nI l)), none] [] g I J = some (.inl (some (.ref B)), g, I, J) := by
    intro J
    rw [nI_iZ, c_at hA h.2.2.1 hn (by omega) (by omega), pZ_in (by omega) (by omega), hBd]
    rfl
  rw [← hAd]
  have loop : ∀ (d t : Nat) (l5 : Option Value), t + d = cn i → hf_rn 6 9 [some (.ref 13), some (.int (nI i)), some (.int (nI l)), some (.ref A), some (.int (nI t)), l5] [] g I (hf_w J (A + 14) (lgO cn Hs nx l i (J (A + 14)) t)) = some (.inl none, g, I, hf_w J (A + 14) (lgO cn Hs nx l i (J (A + 14)) (cn i))) := by
    intro d
    induction d with
    | zero =>
      intro t l5 ht
      have e1 : t = cn i := by omega
      rw [e1]
      simp only [s6_0, s6_1, s6_2, s6_5, s6_6, s6_7, s6_9, s6_11, s6_12, s6_15, s6_18, s6_21, s6_22, s6_24, s6_27, s6_28, s6_31, s6_32, s6_33, s6_36, s6_39, s6_40, s6_43, s6_45, s6_48, s6_51, s6_53, s6_54, s6_57, s6_59, s6_61, s6_62, s6_65, s6_68, s6_71, s6_72, s6_74, s6_77, s6_78, s6_81, s6_87, hf_bd_v, hf_bd_n, hf_iv_i, hf_iv_l, hf_iv_a, hf_iv_n, hf_iv_2, z_lgl, z_lgg, z_lge, z_lgle, z_lgz, Option.getD_some, Option.isSome_some, ↓reduceIte, not_true_eq_false, not_false_eq_true, Option.toList_some, Option.toList_none, List.cons_append, List.nil_append, Nat.reduceAdd, Nat.add_assoc, ku_ne, ku_same, ne_eq, Nat.reduceEqDiff, reduceCtorEq, Nat.add_eq_left, Nat.left_eq_add, Nat.reduceEqDiff, q10, q_ne, true_or, or_true, pc_k hP, pc_r0 hP, pc_r1 hP, pc_r2 hP, hS.1, hci.2, z_ii (show cn i < 2147483648 by omega) (show cn i < 2147483648 by omega), Nat.le_refl]
    | succ d ih =>
      intro t l5 ht
      have hk1 : ¬ cn i ≤ t := by omega
      have ht64 : t < 64 := by omega
      have htc : t < cn i := by omega
      have hgo := c_goesOnIn (I := I) (J := hf_w J (A + 14) (lgO cn Hs nx l i (J (A + 14)) t)) hP ht64
      have hv : lgO cn Hs nx l i (J (A + 14)) t t = cdL (nx i t) := by rw [lgO, if_neg (by omega), hO t htc]
      have hxx := alb_nx h (show i < n by omega) htc
      rw [kw_row, hv, cdI_l hxx] at hgo
      have hq := cdI_n h (show i < n by omega) htc
      have hme := c_members (I := I) (J := hf_w J (A + 14) (lgO cn Hs nx l i (J (A + 14)) t)) hS ht64
      rw [kw_ne (show A + 1 + 11 ≠ A + 14 by omega), show A + 1 + 11 = A + 12 by omega, hH] at hme
      have hmo := c_mostOf (I := I) (J := hf_w J (A + 14) (lgO cn Hs nx l i (J (A + 14)) t)) (w := Hs i t) hS2 hcl.2 hcl.1
      rw [kw_ne (show B + 1 + 11 ≠ A + 14 by omega), show B + 1 + 11 = B + 12 by omega, hH2] at hmo
      have hr := pc_rw13 hP
      by_cases hnn : nx i t = none
      · have hq2 : (cdI (nx i t) = -1) = True := by rw [hq]; exact eq_true hnn
        have hup : ∀ x, x = cdL (lgX cn Hs l i t) → up (lgO cn Hs nx l i (J (A + 14)) t) t x = lgO cn Hs nx l i (J (A + 14)) (t + 1) := by
          intro x hx
          subst hx
          funext y
          unfold up lgO
          by_cases c1 : y = t
          · subst c1; simp [hnn]
          · simp only [c1, if_false, show (y < t + 1) = (y < t) from by apply propext; omega]
        by_cases hm1 : (moF (Hs l) (Hs i t) (cn l)).1 = -1
        · have hx : (-1 : Int64) = cdL (lgX cn Hs l i t) := by rw [lgX, if_pos hm1]; rfl
          simp only [s6_9, s6_11, s6_12, s6_15, s6_18, s6_21, s6_22, s6_24, s6_27, s6_28, s6_31, s6_32, s6_33, s6_36, s6_39, s6_40, s6_43, s6_45, s6_48, s6_51, s6_53, s6_54, s6_57, s6_59, s6_61, s6_62, s6_65, s6_68, s6_71, s6_72, s6_74, s6_77, s6_78, s6_81, hf_bd_v, hf_bd_n, hf_iv_i, hf_iv_l, hf_iv_a, hf_iv_n, hf_iv_2, z_lgl, z_lgg, z_lge, z_lgle, z_lgz, Option.getD_some, Option.isSome_some, ↓reduceIte, not_true_eq_false, not_false_eq_true, Option.toList_some, Option.toList_none, List.cons_append, List.nil_append, Nat.reduceAdd, Nat.add_assoc, ku_ne, ku_same, ne_eq, Nat.reduceEqDiff, reduceCtorEq, Nat.add_eq_left, Nat.left_eq_add, Nat.reduceEqDiff, q10, q_ne, true_or, or_true, pc_k hP, pc_r0 hP, pc_r1 hP, pc_r2 hP, pc_k hP2, pc_r0 hP2, pc_r1 hP2, pc_r2 hP2, hP.1, hS.1, hA.1, hS2.1, hci.2, z_ii (show cn i < 2147483648 by omega) (show t < 2147483648 by omega), hk1, z_1, hgo, hq2, hat2, hme, hmo, hm1, hr.1, c_set hr ht64, kuw]
          rw [s6_84, hup _ hx]
          exact ih (t + 1) _ (by omega)
        · obtain ⟨y, y1, y2⟩ := (moF_k (H := Hs l) (w := Hs i t) (cn l)).resolve_left hm1
          have hx : (nI (100 * l + y)).toInt64 = cdL (lgX cn Hs l i t) := by
            rw [lgX, if_neg hm1, y2, nI_clamp (by omega), cdL, nI_ll (by omega)]
            rfl
          have hnl : ¬ nI y = -1 := by rw [← y2]; exact hm1
          simp only [s6_9, s6_11, s6_12, s6_15, s6_18, s6_21, s6_22, s6_24, s6_27, s6_28, s6_31, s6_32, s6_33, s6_36, s6_39, s6_40, s6_43, s6_45, s6_48, s6_51, s6_53, s6_54, s6_57, s6_59, s6_61, s6_62, s6_65, s6_68, s6_71, s6_72, s6_74, s6_77, s6_78, s6_81, hf_bd_v, hf_bd_n, hf_iv_i, hf_iv_l, hf_iv_a, hf_iv_n, hf_iv_2, z_lgl, z_lgg, z_lge, z_lgle, z_lgz, Option.getD_some, Option.isSome_some, ↓reduceIte, not_true_eq_false, not_false_eq_true, Option.toList_some, Option.toList_none, List.cons_append, List.nil_append, Nat.reduceAdd, Nat.add_assoc, ku_ne, ku_same, ne_eq, Nat.reduceEqDiff, reduceCtorEq, Nat.add_eq_left, Nat.left_eq_add, Nat.reduceEqDiff, q10, q_ne, true_or, or_true, pc_k hP, pc_r0 hP, pc_r1 hP, pc_r2 hP, pc_k hP2, pc_r0 hP2, pc_r1 hP2, pc_r2 hP2, hP.1, hS.1, hA.1, hS2.1, hci.2, z_ii (show cn i < 2147483648 by omega) (show t < 2147483648 by omega), hk1, z_1, hgo, hq2, hat2, hme, hmo, y2, hnl, c_codeOf, hr.1, c_set hr ht64, kuw]
          rw [s6_84, hup _ hx]
          exact ih (t + 1) _ (by omega)
      · have hq2 : (cdI (nx i t) = -1) = False := by rw [hq]; exact eq_false hnn
        simp only [s6_9, s6_11, s6_12, s6_15, s6_18, s6_21, s6_22, s6_24, s6_27, s6_28, s6_31, s6_32, s6_33, s6_36, s6_39, s6_40, s6_43, s6_45, s6_48, s6_51, s6_53, s6_54, s6_57, s6_59, s6_61, s6_62, s6_65, s6_68, s6_71, s6_72, s6_74, s6_77, s6_78, s6_81, hf_bd_v, hf_bd_n, hf_iv_i, hf_iv_l, hf_iv_a, hf_iv_n, hf_iv_2, z_lgl, z_lgg, z_lge, z_lgle, z_lgz, Option.getD_some, Option.isSome_some, ↓reduceIte, not_true_eq_false, not_false_eq_true, Option.toList_some, Option.toList_none, List.cons_append, List.nil_append, Nat.reduceAdd, Nat.add_assoc, ku_ne, ku_same, ne_eq, Nat.reduceEqDiff, reduceCtorEq, Nat.add_eq_left, Nat.left_eq_add, Nat.reduceEqDiff, q10, q_ne, true_or, or_true, pc_k hP, pc_r0 hP, pc_r1 hP, pc_r2 hP, hP.1, hS.1, hci.2, z_ii (show cn i < 2147483648 by omega) (show t < 2147483648 by omega), hk1, z_1, hgo, hq2]
        have e2 : lgO cn Hs nx l i (J (A + 14)) t = lgO cn Hs nx l i (J (A + 14)) (t + 1) := by
          funext y
          unfold lgO
          by_cases c1 : y = t
          · subst c1; simp [hnn]
          · simp only [show (y < t + 1) = (y < t) from by apply propext; omega]
        rw [s6_84, e2]
        exact ih (t + 1) _ (by omega)
  have e0 : hf_w J (A + 14) (lgO cn Hs nx l i (J (A + 14)) 0) = J := kw_id (by funext y; simp [lgO])
  have key := loop (cn i) 0 none (by omega)
  rw [e0] at key
  simp only [s6_0, s6_1, s6_2, s6_5, s6_6, s6_7, hf_bd_v, hf_bd_n, hf_iv_i, hf_iv_l, hf_iv_a, hf_iv_n, hf_iv_2, z_lgl, z_lgg, z_lge, z_lgle, z_lgz, Option.getD_some, Option.isSome_some, ↓reduceIte, not_true_eq_false, not_false_eq_true, Option.toList_some, Option.toList_none, List.cons_append, List.nil_append, Nat.reduceAdd, Nat.add_assoc, ku_ne, ku_same, ne_eq, Nat.reduceEqDiff, reduceCtorEq, Nat.add_eq_left, Nat.left_eq_add, Nat.reduceEqDiff, q10, q_ne, true_or, or_true, hA.1, hat1]
  exact key
theorem c_letOff (h : Alb g I J n cn Hs nx) (he : e < 0) (he2 : -100 ≤ e) : hf_rn 6 0 [some (.ref 13), some (.int (iZ e)), some (.int (nI l)), none, none, none] [] g I J = some (.inl none, g, I, J) := by
  have hat := alb_at (e := e) h (by omega) (by omega)
  have hz : pZ n e = 15 := by rw [pZ, if_neg (by omega)]
  rw [hz] at hat
  have hP := al_pc15 h.1
  have hct : I 16 2 = nI 0 := h.2.2.2.1
  have f : hf_r g 15 0 = some 16 := pc_r0 hP
  have hS : hf_k g 16 = (0, 6) := (pc_sc1 hP).1
  have h00 : (nI 0 ≤ nI 0) = True := eq_true (by decide)
  simp only [s6_0, s6_1, s6_2, s6_5, s6_6, s6_7, s6_9, s6_11, s6_12, s6_15, s6_18, s6_21, s6_22, s6_24, s6_27, s6_28, s6_31, s6_32, s6_33, s6_36, s6_39, s6_40, s6_43, s6_45, s6_48, s6_51, s6_53, s6_54, s6_57, s6_59, s6_61, s6_62, s6_65, s6_68, s6_71, s6_72, s6_74, s6_77, s6_78, s6_81, s6_87, hf_bd_v, hf_bd_n, hf_iv_i, hf_iv_l, hf_iv_a, hf_iv_n, hf_iv_2, z_lgl, z_lgg, z_lge, z_lgle, z_lgz, Option.getD_some, Option.isSome_some, ↓reduceIte, not_true_eq_false, not_false_eq_true, Option.toList_some, Option.toList_none, List.cons_append, List.nil_append, Nat.reduceAdd, Nat.add_assoc, ku_ne, ku_same, ne_eq, Nat.reduceEqDiff, reduceCtorEq, Nat.add_eq_left, Nat.left_eq_add, Nat.reduceEqDiff, q10, q_ne, true_or, or_true, h.1.1, hat, hP.1, f, hS, hct, show (0 : Int32) = nI 0 from rfl, h00]
theorem alb_let (h : Alb g I J n cn Hs nx) (hl : l < n) (hi : i < l) : Alb g I (hf_w J (34 + 17 * i + 14) (lgO cn Hs nx l i (J (34 + 17 * i + 14)) (cn i))) n cn Hs (lgN cn Hs nx l i) := by
  obtain ⟨a1, a2, a3, a4, a5, a6, a7, a8⟩ := h
  refine ⟨a1, a2, a3, a4, a5, fun x hx => by rw [kw_ne (by omega), a6 x hx], fun x k hx hk => ?_, fun x k j y hx hk hj => ?_⟩
  · by_cases c : x = i
    · subst c
      rw [kw_row, lgO, lgN]
      by_cases c2 : nx x k = none
      · rw [if_pos ⟨hk, c2⟩, if_pos ⟨rfl, c2⟩]
      · rw [if_neg (fun c => c2 c.2), if_neg (fun c => c2 c.2), a7 x k hx hk]
    · rw [kw_ne (by omega), lgN, if_neg (fun d => c d.1), a7 x k hx hk]
  · rw [lgN] at hj
    by_cases c : x = i ∧ nx x k = none
    · rw [if_pos c, lgX] at hj
      obtain ⟨rfl, c2⟩ := c
      by_cases hm : (moF (Hs l) (Hs x k) (cn l)).1 = -1
      · rw [if_pos hm] at hj; cases hj
      · rw [if_neg hm] at hj
        obtain ⟨y2, q1, q2⟩ := (moF_k (H := Hs l) (w := Hs x k) (cn l)).resolve_left hm
        have h64 := (a5 l hl).1
        rw [q2, nI_clamp (by omega)] at hj
        cases hj
        exact ⟨hi, hl, q1⟩
    · rw [if_neg c] at hj
      exact a8 x k j y hx hk hj
theorem c_clear (h : Al g) : hf_rn 1 0 [some (.ref 13)] [] g I J = some (.inl none, g, hf_u I 13 3 0, J) := by
  simp only [s1_0, s1_1, s1_2, s1_5, hf_bd_v, hf_bd_n, hf_iv_i, hf_iv_l, hf_iv_a, hf_iv_n, hf_iv_2, z_lgl, z_lgg, z_lge, z_lgle, z_lgz, Option.getD_some, Option.isSome_some, ↓reduceIte, not_true_eq_false, not_false_eq_true, Option.toList_some, Option.toList_none, List.cons_append, List.nil_append, Nat.reduceAdd, Nat.add_assoc, ku_ne, ku_same, ne_eq, Nat.reduceEqDiff, reduceCtorEq, Nat.add_eq_left, Nat.left_eq_add, Nat.reduceEqDiff, q10, q_ne, true_or, or_true, h.1]
end
