/-! THE FACE: keep; the sky -/
abbrev L5 : Type := (Nat → Int64) × (Nat → Int64) × (Nat → Int64) × (Nat → Int64) × (Nat → Int64)
/-- what is seen, told anew: codes, distances, reds, parts, stars -/
def s5 (J : hf_J) (W : L5) : hf_J := fun a => if a = 259 then W.1 else if a = 261 then W.2.1 else if a = 263 then W.2.2.1 else if a = 265 then W.2.2.2.1 else if a = 267 then W.2.2.2.2 else J a
section
variable {g : hf_G} {I I2 : hf_I} {J J2 : hf_J} {S a b c d k m n s p q P t : Nat} {u v w q64 : Int64} {i j x y : Int32} {cn : Nat → Nat} {Hs : Nat → Nat → Int64} {nx : Nat → Nat → Option (Nat × Nat)} {W : L5}
theorem s5_n (h : a < 259 ∨ 267 < a) : s5 J W a = J a := by
  unfold s5
  rw [if_neg (by omega), if_neg (by omega), if_neg (by omega), if_neg (by omega), if_neg (by omega)]
theorem s5_self : s5 J (J 259, J 261, J 263, J 265, J 267) = J := by
  funext a
  unfold s5
  by_cases h1 : a = 259
  · subst h1; rfl
  · by_cases h2 : a = 261
    · subst h2; rfl
    · by_cases h3 : a = 263
      · subst h3; rfl
      · by_cases h4 : a = 265
        · subst h4; rfl
        · by_cases h5 : a = 267
          · subst h5; rfl
          · rw [if_neg h1, if_neg h2, if_neg h3, if_neg h4, if_neg h5]
def pt5 (W : L5) (n : Nat) (co : Int32) (x y sx sy st : Int64) : L5 := (up W.1 n co.toInt64, up W.2.1 n (rtL (sqL x y) 12), up W.2.2.1 n (redL x y sx sy), up W.2.2.2.1 n (ptL x y).toInt64, up W.2.2.2.2 n st)
theorem putS_5 {co : Int32} {x y sx sy st : Int64} : putS (s5 J W) n co x y sx sy st = s5 J (pt5 W n co x y sx sy st) := by
  funext a
  unfold putS pt5
  by_cases h5 : a = 267
  · subst h5; rw [ku_row, ku_ne (by decide), ku_ne (by decide), ku_ne (by decide), ku_ne (by decide)]; rfl
  · rw [ku_ne h5]
    by_cases h4 : a = 265
    · subst h4; rw [ku_row, ku_ne (by decide), ku_ne (by decide), ku_ne (by decide)]; rfl
    · rw [ku_ne h4]
      by_cases h3 : a = 263
      · subst h3; rw [ku_row, ku_ne (by decide), ku_ne (by decide)]; rfl
      · rw [ku_ne h3]
        by_cases h2 : a = 261
        · subst h2; rw [ku_row, ku_ne (by decide)]; rfl
        · rw [ku_ne h2]
          by_cases h1 : a = 259
          · subst h1; rw [ku_row]; rfl
          · rw [ku_ne h1]
            unfold s5
            rw [if_neg h1, if_neg h2, if_neg h3, if_neg h4, if_neg h5, if_neg h1, if_neg h2, if_neg h3, if_neg h4, if_neg h5]
/-- one galaxy is looked at: T p k 0..3 its middle and speed -/
def laS (J : hf_J) (mk : Int32) (T : Nat → Nat → Nat → Int64) (p b k : Nat) (q : Nat × L5) : Nat × L5 :=
  if 0 < J (34 + 17 * p + 16) (4 * k + 2) ∧ seeL (J 257 9) mk.toInt64 (wayL (J 257 7) (T p k 0)) (wayL (J 257 8) (T p k 1)) b = true then
    (q.1 + 1, pt5 q.2 q.1 (nI (100 * p + k)) (wayL (J 257 7) (T p k 0)) (wayL (J 257 8) (T p k 1)) (T p k 2) (T p k 3) (J (34 + 17 * p + 16) (4 * k + 2))) else q
def la1 (J : hf_J) (mk : Int32) (T : Nat → Nat → Nat → Int64) (p b : Nat) (q : Nat × L5) (t : Nat) : Nat × L5 := it t q fun k q => laS J mk T p b k q
def la2 (J : hf_J) (mk : Int32) (T : Nat → Nat → Nat → Int64) (P : Nat) (cn : Nat → Nat) : Nat → Nat × L5 → Nat × L5
  | 0, q => q
  | m + 1, q => la2 J mk T P cn m (la1 J mk T m (P - 1 - m) q (cn m))
theorem laS_le {T : Nat → Nat → Nat → Int64} {mk : Int32} {q : Nat × L5} : (laS J mk T p b k q).1 ≤ q.1 + 1 := by
  unfold laS
  split
  · exact Nat.le_refl _
  · exact Nat.le_succ _
theorem la1_le {T : Nat → Nat → Nat → Int64} {mk : Int32} {q : Nat × L5} : ∀ t, (la1 J mk T p b q t).1 ≤ q.1 + t := by
  intro t
  induction t with
  | zero => exact Nat.le_refl _
  | succ t ih =>
    rw [la1, it_s, ← la1]
    have := laS_le (J := J) (p := p) (b := b) (k := t) (T := T) (mk := mk) (q := la1 J mk T p b q t)
    omega
/-- what the four ways of a picture's scene answer -/
def T4 (g : hf_G) (I : hf_I) (J : hf_J) (T : Nat → Nat → Nat → Int64) (p k : Nat) : Prop :=
  hf_rn 85 0 [some (.ref (34 + 17 * p + 1)), some (.int (nI k)), some (.int 1), none, none, none, none, none, none] [] g I J = some (.inl (some (.long (T p k 0))), g, I, J) ∧
  hf_rn 85 0 [some (.ref (34 + 17 * p + 1)), some (.int (nI k)), some (.int 0), none, none, none, none, none, none] [] g I J = some (.inl (some (.long (T p k 1))), g, I, J) ∧
  hf_rn 86 0 [some (.ref (34 + 17 * p + 1)), some (.int (nI k)), some (.int 1)] [] g I J = some (.inl (some (.long (T p k 2))), g, I, J) ∧
  hf_rn 86 0 [some (.ref (34 + 17 * p + 1)), some (.int (nI k)), some (.int 0)] [] g I J = some (.inl (some (.long (T p k 3))), g, I, J)
theorem c_look {T : Nat → Nat → Nat → Int64} (h : Sk g) (hB : Alb g I J P cn Hs nx) (hT : ∀ p k n W, p < P → k < cn p → T4 g (hf_u I 257 6 (nI n)) (s5 J W) T p k) :
    hf_rn 91 0 [some (.ref 257), some (.ref 13), none, none, none, none] [] g I J = some (.inl none, g, hf_u I 257 6 (nI (la2 J (I 257 10) T P cn P (0, (J 259, J 261, J 263, J 265, J 267))).1), s5 J (la2 J (I 257 10) T P cn P (0, (J 259, J 261, J 263, J 265, J 267))).2) := by
  have hA := hB.1
  have hP12 := hB.2.1
  have hcn := fun p hp => (hB.2.2.2.2.1 p hp).1
  have hBn : ∀ n W, Alb g (hf_u I 257 6 (nI n)) (s5 J W) P cn Hs nx := by
    intro n W
    obtain ⟨a1, a2, a3, a4, a5, a6, a7, a8⟩ := hB
    exact ⟨a1, a2, by rw [ku_ne (by decide)]; exact a3, by rw [ku_ne (by decide)]; exact a4, fun i hi => by rw [ku_ne (by omega)]; exact a5 i hi, fun i hi => by rw [s5_n (by omega)]; exact a6 i hi, fun i k hi hk => by rw [s5_n (by omega)]; exact a7 i k hi hk, a8⟩
  have mskn : ∀ n, hf_u I 257 6 (nI n) 257 10 = I 257 10 := fun n => by rw [ku_ix (by decide)]
  have inner : ∀ (p b : Nat) (q : Nat × L5) (R : Option hf_R), p < P → q.1 + 64 ≤ 768 → (∀ l3 l4 l5, hf_rn 91 7 [some (.ref 257), some (.ref 13), some (.int (nI (b + 1))), l3, l4, l5] [] g (hf_u I 257 6 (nI (la1 J (I 257 10) T p b q (cn p)).1)) (s5 J (la1 J (I 257 10) T p b q (cn p)).2) = R) →
      hf_rn 91 34 [some (.ref 257), some (.ref 13), some (.int (nI b)), some (.int (nI p)), some (.ref (34 + 17 * p)), some (.int (nI 0))] [] g (hf_u I 257 6 (nI q.1)) (s5 J q.2) = R := by
    intro p b q R hp hq hR
    have h64 := hcn p hp
    refine down (n := cn p) (s := q) (f := fun k q => laS J (I 257 10) T p b k q) (fun t q => hf_rn 91 34 [some (.ref 257), some (.ref 13), some (.int (nI b)), some (.int (nI p)), some (.ref (34 + 17 * p)), some (.int (nI t))] [] g (hf_u I 257 6 (nI q.1)) (s5 J q.2) = R) ?_ ?_
    · have hct : ∀ n, hf_u I 257 6 (nI n) (34 + 17 * p + 1) 2 = nI (cn p) := fun n => by rw [ku_ne (by omega)]; exact (hB.2.2.2.2.1 p hp).2
      have hPc : Pc g (34 + 17 * p) := al_pc hA p (by omega)
      generalize 34 + 17 * p = A at *
      have hS := pc_sc1 hPc
      simp only [s91_34, s91_36, s91_38, s91_41, s91_44, s91_47, s91_49, s91_51, s91_52, s91_55, s91_56, s91_57, s91_60, s91_61, s91_63, s91_65, s91_66, s91_68, s91_71, s91_72, s91_75, s91_78, s91_81, hf_bd_v, hf_bd_n, hf_iv_i, hf_iv_l, hf_iv_a, hf_iv_n, hf_iv_2, z_lgl, z_lgg, z_lge, z_lgle, z_lgz, Option.getD_some, Option.isSome_some, ↓reduceIte, not_true_eq_false, not_false_eq_true, Option.toList_some, Option.toList_none, List.cons_append, List.nil_append, Nat.reduceAdd, Nat.add_assoc, ku_ne, ku_same, ne_eq, Nat.reduceEqDiff, reduceCtorEq, Nat.add_eq_left, Nat.left_eq_add, Nat.reduceEqDiff, q10, q_ne, true_or, or_true, pc_k hPc, pc_r0 hPc, pc_r1 hPc, pc_r2 hPc, hS.1, hct, z_ii (show cn p < 2147483648 by omega) (show cn p < 2147483648 by omega), Nat.le_refl, z_1]
      rw [s91_84]
      exact hR _ _ _
    · intro t r ht hx ih
      have hk1 : ¬ cn p ≤ t := by omega
      have hr : r.1 ≤ q.1 + t := by rw [hx]; exact la1_le t
      have hct : hf_u I 257 6 (nI r.1) (34 + 17 * p + 1) 2 = nI (cn p) := by rw [ku_ne (by omega)]; exact (hB.2.2.2.2.1 p hp).2
      have hPc : Pc g (34 + 17 * p) := al_pc hA p (by omega)
      obtain ⟨t1, t2, t3, t4⟩ := hT p t r.1 r.2 hp ht
      have hla := c_lookAt (I := hf_u I 257 6 (nI r.1)) (J := s5 J r.2) (n := r.1) (b := b) (co := nI (100 * p + t)) h hPc (by omega) (show t < 64 by omega) ku_same (by omega) t1 t2 t3 t4
      rw [mskn, s5_n (by decide), s5_n (by omega), ku_ku, putS_5] at hla
      have hga := c_gasOf (I := hf_u I 257 6 (nI r.1)) (J := s5 J r.2) hPc (show 4 * t + 2 < 256 by omega)
      rw [s5_n (by omega), show nI 2 = 2 from rfl] at hga
      unfold laS at ih
      generalize J (34 + 17 * p + 16) (4 * t + 2) = st at *
      generalize 34 + 17 * p = A at *
      have hS := pc_sc1 hPc
      by_cases c1 : 0 < st
      · have c1' := L_nle c1
        by_cases c2 : seeL (J 257 9) (I 257 10).toInt64 (wayL (J 257 7) (T p t 0)) (wayL (J 257 8) (T p t 1)) b = true
        · rw [if_pos ⟨c1, c2⟩] at ih
          rw [if_pos c2] at hla
          simp only [s91_34, s91_36, s91_38, s91_41, s91_44, s91_47, s91_49, s91_51, s91_52, s91_55, s91_56, s91_57, s91_60, s91_61, s91_63, s91_65, s91_66, s91_68, s91_71, s91_72, s91_75, hf_bd_v, hf_bd_n, hf_iv_i, hf_iv_l, hf_iv_a, hf_iv_n, hf_iv_2, z_lgl, z_lgg, z_lge, z_lgle, z_lgz, Option.getD_some, Option.isSome_some, ↓reduceIte, not_true_eq_false, not_false_eq_true, Option.toList_some, Option.toList_none, List.cons_append, List.nil_append, Nat.reduceAdd, Nat.add_assoc, ku_ne, ku_same, ne_eq, Nat.reduceEqDiff, reduceCtorEq, Nat.add_eq_left, Nat.left_eq_add, Nat.reduceEqDiff, q10, q_ne, true_or, or_true, pc_k hPc, pc_r0 hPc, pc_r1 hPc, pc_r2 hPc, hPc.1, hS.1, h.1, hct, z_ii (show cn p < 2147483648 by omega) (show t < 2147483648 by omega), hk1, hga, c1', c_codeOf, hla, z_1]
          rw [s91_78]
          exact ih
        · rw [if_neg (fun c => c2 c.2)] at ih
          rw [if_neg c2] at hla
          simp only [s91_34, s91_36, s91_38, s91_41, s91_44, s91_47, s91_49, s91_51, s91_52, s91_55, s91_56, s91_57, s91_60, s91_61, s91_63, s91_65, s91_66, s91_68, s91_71, s91_72, s91_75, hf_bd_v, hf_bd_n, hf_iv_i, hf_iv_l, hf_iv_a, hf_iv_n, hf_iv_2, z_lgl, z_lgg, z_lge, z_lgle, z_lgz, Option.getD_some, Option.isSome_some, ↓reduceIte, not_true_eq_false, not_false_eq_true, Option.toList_some, Option.toList_none, List.cons_append, List.nil_append, Nat.reduceAdd, Nat.add_assoc, ku_ne, ku_same, ne_eq, Nat.reduceEqDiff, reduceCtorEq, Nat.add_eq_left, Nat.left_eq_add, Nat.reduceEqDiff, q10, q_ne, true_or, or_true, pc_k hPc, pc_r0 hPc, pc_r1 hPc, pc_r2 hPc, hPc.1, hS.1, h.1, hct, z_ii (show cn p < 2147483648 by omega) (show t < 2147483648 by omega), hk1, hga, c1', c_codeOf, hla, z_1]
          rw [s91_78]
          exact ih
      · rw [if_neg (fun c => c1 c.1)] at ih
        have c1' := L_le c1
        simp only [s91_34, s91_36, s91_38, s91_41, s91_44, s91_47, s91_49, s91_51, s91_52, s91_55, s91_56, s91_57, s91_60, s91_61, s91_63, s91_65, s91_66, s91_68, s91_71, s91_72, s91_75, hf_bd_v, hf_bd_n, hf_iv_i, hf_iv_l, hf_iv_a, hf_iv_n, hf_iv_2, z_lgl, z_lgg, z_lge, z_lgle, z_lgz, Option.getD_some, Option.isSome_some, ↓reduceIte, not_true_eq_false, not_false_eq_true, Option.toList_some, Option.toList_none, List.cons_append, List.nil_append, Nat.reduceAdd, Nat.add_assoc, ku_ne, ku_same, ne_eq, Nat.reduceEqDiff, reduceCtorEq, Nat.add_eq_left, Nat.left_eq_add, Nat.reduceEqDiff, q10, q_ne, true_or, or_true, pc_k hPc, pc_r0 hPc, pc_r1 hPc, pc_r2 hPc, hPc.1, hS.1, h.1, hct, z_ii (show cn p < 2147483648 by omega) (show t < 2147483648 by omega), hk1, hga, c1', z_1]
        rw [s91_78]
        exact ih
  have outer : ∀ (m : Nat) (q : Nat × L5) l3 l4 l5, m ≤ P → q.1 + 64 * m ≤ 768 → hf_rn 91 7 [some (.ref 257), some (.ref 13), some (.int (nI (P - m))), l3, l4, l5] [] g (hf_u I 257 6 (nI q.1)) (s5 J q.2) = some (.inl none, g, hf_u I 257 6 (nI (la2 J (I 257 10) T P cn m q).1), s5 J (la2 J (I 257 10) T P cn m q).2) := by
    intro m
    induction m with
    | zero =>
      intro q l3 l4 l5 _ _
      have hn1 : hf_u I 257 6 (nI q.1) 13 3 = nI P := by rw [ku_ne (by decide)]; exact hB.2.2.1
      simp only [s91_7, s91_8, s91_9, s91_12, s91_15, s91_16, s91_19, s91_20, s91_21, s91_22, s91_23, s91_24, s91_25, s91_26, s91_29, s91_31, s91_32, s91_87, hf_bd_v, hf_bd_n, hf_iv_i, hf_iv_l, hf_iv_a, hf_iv_n, hf_iv_2, z_lgl, z_lgg, z_lge, z_lgle, z_lgz, Option.getD_some, Option.isSome_some, ↓reduceIte, not_true_eq_false, not_false_eq_true, Option.toList_some, Option.toList_none, List.cons_append, List.nil_append, Nat.reduceAdd, Nat.add_assoc, ku_ne, ku_same, ne_eq, Nat.reduceEqDiff, reduceCtorEq, Nat.add_eq_left, Nat.left_eq_add, Nat.reduceEqDiff, q10, q_ne, true_or, or_true, al_k hA, al_r0 hA, al_r1 hA, al_r2 hA, al_k14 hA, hn1, Nat.sub_zero, z_ii (show P < 2147483648 by omega) (show P < 2147483648 by omega), Nat.le_refl]
      rfl
    | succ m ih =>
      intro q l3 l4 l5 hm hq
      have hn1 : hf_u I 257 6 (nI q.1) 13 3 = nI P := by rw [ku_ne (by decide)]; exact hB.2.2.1
      have hz := z_ii (show P < 2147483648 by omega) (show P - (m + 1) < 2147483648 by omega)
      have hk1 : ¬ P ≤ P - (m + 1) := by omega
      have hat := c_atP (hBn q.1 q.2) (show m < P by omega)
      have e1 : nI P - 1 - nI (P - (m + 1)) = nI m := by
        rw [nI_iZ, nI_iZ, nI_iZ, show (1 : Int32) = iZ 1 from rfl, iZ_sub, iZ_sub]
        congr 1
        omega
      simp only [s91_7, s91_8, s91_9, s91_12, s91_15, s91_16, s91_19, s91_20, s91_21, s91_22, s91_23, s91_24, s91_25, s91_26, s91_29, s91_31, s91_32, hf_bd_v, hf_bd_n, hf_iv_i, hf_iv_l, hf_iv_a, hf_iv_n, hf_iv_2, z_lgl, z_lgg, z_lge, z_lgle, z_lgz, Option.getD_some, Option.isSome_some, ↓reduceIte, not_true_eq_false, not_false_eq_true, Option.toList_some, Option.toList_none, List.cons_append, List.nil_append, Nat.reduceAdd, Nat.add_assoc, ku_ne, ku_same, ne_eq, Nat.reduceEqDiff, reduceCtorEq, Nat.add_eq_left, Nat.left_eq_add, Nat.reduceEqDiff, q10, q_ne, true_or, or_true, al_k hA, al_r0 hA, al_r1 hA, al_r2 hA, al_k14 hA, hA.1, hn1, hz, hk1, e1, hat]
      refine inner m (P - (m + 1)) q _ (by omega) (by omega) (fun l3 l4 l5 => ?_)
      have h1 := la1_le (J := J) (p := m) (b := P - (m + 1)) (T := T) (mk := I 257 10) (q := q) (cn m)
      have h2 := hcn m (by omega)
      rw [show P - (m + 1) + 1 = P - m by omega, ih _ l3 l4 l5 (by omega) (by omega), la2, show P - 1 - m = P - (m + 1) by omega]
  have key := outer P (0, (J 259, J 261, J 263, J 265, J 267)) none none none (Nat.le_refl _) (by dsimp only; omega)
  rw [Nat.sub_self, s5_self] at key
  simp only [s91_0, s91_1, s91_2, s91_5, s91_6, hf_bd_v, hf_bd_n, hf_iv_i, hf_iv_l, hf_iv_a, hf_iv_n, hf_iv_2, z_lgl, z_lgg, z_lge, z_lgle, z_lgz, Option.getD_some, Option.isSome_some, ↓reduceIte, not_true_eq_false, not_false_eq_true, Option.toList_some, Option.toList_none, List.cons_append, List.nil_append, Nat.reduceAdd, Nat.add_assoc, ku_ne, ku_same, ne_eq, Nat.reduceEqDiff, reduceCtorEq, Nat.add_eq_left, Nat.left_eq_add, Nat.reduceEqDiff, q10, q_ne, true_or, or_true, sk_k h, sk_r0 h, sk_r1 h, sk_r2 h, sk_r3 h, sk_r4 h, sk_r5 h]
  exact key
theorem c_seenF (h : Hx g) (hs : Sk g) (hA : Al g) (hl : hf_rn 91 0 [some (.ref 257), some (.ref 13), none, none, none, none] [] g I J = some (.inl none, g, I2, J2)) : hf_rn 131 0 [some (.ref 0)] [] g I J = some (.inl (some (.int (I2 257 6))), g, I2, J2) := by
  simp only [s131_0, s131_1, s131_4, s131_5, s131_8, s131_11, s131_12, s131_15, s131_18, hf_bd_v, hf_bd_n, hf_iv_i, hf_iv_l, hf_iv_a, hf_iv_n, hf_iv_2, z_lgl, z_lgg, z_lge, z_lgle, z_lgz, Option.getD_some, Option.isSome_some, ↓reduceIte, not_true_eq_false, not_false_eq_true, Option.toList_some, Option.toList_none, List.cons_append, List.nil_append, Nat.reduceAdd, Nat.add_assoc, ku_ne, ku_same, ne_eq, Nat.reduceEqDiff, reduceCtorEq, Nat.add_eq_left, Nat.left_eq_add, Nat.reduceEqDiff, q10, q_ne, true_or, or_true, hx_k h, hx_r0 h, hx_r1 h, hx_r2 h, hx_r3 h, hx_r4 h, hx_r5 h, sk_k hs, sk_r0 hs, sk_r1 hs, sk_r2 hs, sk_r3 hs, sk_r4 hs, sk_r5 hs, hs.1, hA.1, hl]
theorem c_skyF (h : Hx g) (hs : Sk g) (hA : Al g) (he : hf_n g < 1000000) (hl : hf_rn 91 0 [some (.ref 257), some (.ref 13), none, none, none, none] [] g I J = some (.inl none, g, I2, J2)) (hn : I2 257 6 = nI n) (hn2 : n ≤ 768) (hk : k < n) (hm : m < 4) : hf_rn 132 0 [some (.ref 0), some (.int (nI k)), some (.int (nI m))] [] g I J = some (.inl (some (.int (J2 (259 + 2 * m) k).toInt32)), g, I2, J2) := by
  have hm2 : (0 : Int32) ≤ nI m ∧ nI m ≤ 4 := ⟨nI_pos' (by omega), by rw [show (4 : Int32) = nI 4 from rfl]; exact nI_le (by omega) (by omega)⟩
  have hv := c_skval (I := I2) (J := J2) hs (show k < 768 by omega) hm
  simp only [s132_0, s132_1, s132_4, s132_5, s132_8, s132_11, s132_12, s132_15, s132_16, s132_17, s132_20, s132_23, s132_26, s132_36, s132_37, s132_38, s132_39, s132_42, s132_43, s132_46, s132_47, s132_48, s132_51, s132_52, hf_bd_v, hf_bd_n, hf_iv_i, hf_iv_l, hf_iv_a, hf_iv_n, hf_iv_2, z_lgl, z_lgg, z_lge, z_lgle, z_lgz, Option.getD_some, Option.isSome_some, ↓reduceIte, not_true_eq_false, not_false_eq_true, Option.toList_some, Option.toList_none, List.cons_append, List.nil_append, Nat.reduceAdd, Nat.add_assoc, ku_ne, ku_same, ne_eq, Nat.reduceEqDiff, reduceCtorEq, Nat.add_eq_left, Nat.left_eq_add, Nat.reduceEqDiff, q10, q_ne, true_or, or_true, hx_k h, hx_r0 h, hx_r1 h, hx_r2 h, hx_r3 h, hx_r4 h, hx_r5 h, sk_k hs, sk_r0 hs, sk_r1 hs, sk_r2 hs, sk_r3 hs, sk_r4 hs, sk_r5 hs, hs.1, hA.1, hl, hn, z_i0 (show k < 2147483648 by omega), z_il (show k < 2147483648 by omega) (show n < 2147483648 by omega), hk, c_needRange he, if_pos hm2, hv]
theorem c_skyF4 (h : Hx g) (hs : Sk g) (hA : Al g) (he : hf_n g < 1000000) (hl : hf_rn 91 0 [some (.ref 257), some (.ref 13), none, none, none, none] [] g I J = some (.inl none, g, I2, J2)) (hn : I2 257 6 = nI n) (hn2 : n ≤ 768) (hk : k < n) (hT : ∀ k, k < n → 0 < J2 267 k) : hf_rn 132 0 [some (.ref 0), some (.int (nI k)), some (.int 4)] [] g I J = some (.inl (some (.int (gsF n (J2 267) (J2 265) (J2 261) (J2 257 11) (J2 269) n k).toInt32)), g, I2, hf_w J2 269 (gsF n (J2 267) (J2 265) (J2 261) (J2 257 11) (J2 269) n)) := by
  have hv := c_skval4 (I := I2) (J := J2) hs hn hn2 hT (show k < 768 by omega)
  simp only [s132_0, s132_1, s132_4, s132_5, s132_8, s132_11, s132_12, s132_15, s132_16, s132_17, s132_20, s132_23, s132_26, s132_36, s132_37, s132_38, s132_39, s132_42, s132_43, s132_46, s132_47, s132_48, s132_51, s132_52, hf_bd_v, hf_bd_n, hf_iv_i, hf_iv_l, hf_iv_a, hf_iv_n, hf_iv_2, z_lgl, z_lgg, z_lge, z_lgle, z_lgz, Option.getD_some, Option.isSome_some, ↓reduceIte, not_true_eq_false, not_false_eq_true, Option.toList_some, Option.toList_none, List.cons_append, List.nil_append, Nat.reduceAdd, Nat.add_assoc, ku_ne, ku_same, ne_eq, Nat.reduceEqDiff, reduceCtorEq, Nat.add_eq_left, Nat.left_eq_add, Nat.reduceEqDiff, q10, q_ne, true_or, or_true, hx_k h, hx_r0 h, hx_r1 h, hx_r2 h, hx_r3 h, hx_r4 h, hx_r5 h, sk_k hs, sk_r0 hs, sk_r1 hs, sk_r2 hs, sk_r3 hs, sk_r4 hs, sk_r5 hs, hs.1, hA.1, hl, hn, z_i0 (show k < 2147483648 by omega), z_il (show k < 2147483648 by omega) (show n < 2147483648 by omega), hk, c_needRange he, if_pos (show (0 : Int32) ≤ 4 ∧ (4 : Int32) ≤ 4 from by decide), hv]
theorem c_skyX3 (h : Hx g) (hs : Sk g) (hA : Al g) (hl : hf_rn 91 0 [some (.ref 257), some (.ref 13), none, none, none, none] [] g I J = some (.inl none, g, I2, J2)) (hk : ¬ (0 ≤ i ∧ i < I2 257 6)) : hf_rn 132 0 [some (.ref 0), some (.int i), some (.int j)] [] g I J = some (.inr 3, hf_th g, I2, J2) := by
  by_cases h1 : i < 0
  · simp only [s132_0, s132_1, s132_4, s132_5, s132_8, s132_11, s132_12, s132_15, s132_16, s132_17, s132_20, s132_23, s132_26, s132_36, s132_37, s132_38, s132_39, s132_42, s132_43, s132_46, s132_47, s132_48, s132_51, s132_52, hf_bd_v, hf_bd_n, hf_iv_i, hf_iv_l, hf_iv_a, hf_iv_n, hf_iv_2, z_lgl, z_lgg, z_lge, z_lgle, z_lgz, Option.getD_some, Option.isSome_some, ↓reduceIte, not_true_eq_false, not_false_eq_true, Option.toList_some, Option.toList_none, List.cons_append, List.nil_append, Nat.reduceAdd, Nat.add_assoc, ku_ne, ku_same, ne_eq, Nat.reduceEqDiff, reduceCtorEq, Nat.add_eq_left, Nat.left_eq_add, Nat.reduceEqDiff, q10, q_ne, true_or, or_true, hx_k h, hx_r0 h, hx_r1 h, hx_r2 h, hx_r3 h, hx_r4 h, hx_r5 h, sk_k hs, sk_r0 hs, sk_r1 hs, sk_r2 hs, sk_r3 hs, sk_r4 hs, sk_r5 hs, hs.1, hA.1, hl, h1]
  · have h2 : ¬ i < I2 257 6 := fun c => hk ⟨I_le h1, c⟩
    simp only [s132_0, s132_1, s132_4, s132_5, s132_8, s132_11, s132_12, s132_15, s132_16, s132_17, s132_20, s132_23, s132_26, s132_36, s132_37, s132_38, s132_39, s132_42, s132_43, s132_46, s132_47, s132_48, s132_51, s132_52, hf_bd_v, hf_bd_n, hf_iv_i, hf_iv_l, hf_iv_a, hf_iv_n, hf_iv_2, z_lgl, z_lgg, z_lge, z_lgle, z_lgz, Option.getD_some, Option.isSome_some, ↓reduceIte, not_true_eq_false, not_false_eq_true, Option.toList_some, Option.toList_none, List.cons_append, List.nil_append, Nat.reduceAdd, Nat.add_assoc, ku_ne, ku_same, ne_eq, Nat.reduceEqDiff, reduceCtorEq, Nat.add_eq_left, Nat.left_eq_add, Nat.reduceEqDiff, q10, q_ne, true_or, or_true, hx_k h, hx_r0 h, hx_r1 h, hx_r2 h, hx_r3 h, hx_r4 h, hx_r5 h, sk_k hs, sk_r0 hs, sk_r1 hs, sk_r2 hs, sk_r3 hs, sk_r4 hs, sk_r5 hs, hs.1, hA.1, hl, h1, h2]
theorem c_skyX1 (h : Hx g) (hs : Sk g) (hA : Al g) (he : hf_n g < 1000000) (hl : hf_rn 91 0 [some (.ref 257), some (.ref 13), none, none, none, none] [] g I J = some (.inl none, g, I2, J2)) (hk : 0 ≤ i ∧ i < I2 257 6) (hm : ¬ (0 ≤ j ∧ j ≤ 4)) : hf_rn 132 0 [some (.ref 0), some (.int i), some (.int j)] [] g I J = some (.inr 1, hf_th g, I2, J2) := by
  have h1 : ¬ i < 0 := fun c => I_nle c hk.1
  simp only [s132_0, s132_1, s132_4, s132_5, s132_8, s132_11, s132_12, s132_15, s132_16, s132_17, s132_20, s132_23, s132_26, s132_36, s132_37, s132_38, s132_39, s132_42, s132_43, s132_46, s132_47, s132_48, s132_51, s132_52, hf_bd_v, hf_bd_n, hf_iv_i, hf_iv_l, hf_iv_a, hf_iv_n, hf_iv_2, z_lgl, z_lgg, z_lge, z_lgle, z_lgz, Option.getD_some, Option.isSome_some, ↓reduceIte, not_true_eq_false, not_false_eq_true, Option.toList_some, Option.toList_none, List.cons_append, List.nil_append, Nat.reduceAdd, Nat.add_assoc, ku_ne, ku_same, ne_eq, Nat.reduceEqDiff, reduceCtorEq, Nat.add_eq_left, Nat.left_eq_add, Nat.reduceEqDiff, q10, q_ne, true_or, or_true, hx_k h, hx_r0 h, hx_r1 h, hx_r2 h, hx_r3 h, hx_r4 h, hx_r5 h, sk_k hs, sk_r0 hs, sk_r1 hs, sk_r2 hs, sk_r3 hs, sk_r4 hs, sk_r5 hs, hs.1, hA.1, hl, h1, hk.2, c_needRange he, if_neg hm, hf_bdx hh_132]
theorem c_keepX (h : Hx g) (hA : Al g) (hn : I 13 3 = 12) : hf_rn 122 0 [some (.ref 0)] [] g I J = some (.inr 2, hf_th g, I, J) := by
  simp only [s122_0, s122_1, s122_4, s122_7, s122_9, s122_12, s122_22, s122_23, s122_26, s122_27, s122_30, s122_33, s122_34, s122_37, s122_38, s122_41, s122_44, hf_bd_v, hf_bd_n, hf_iv_i, hf_iv_l, hf_iv_a, hf_iv_n, hf_iv_2, z_lgl, z_lgg, z_lge, z_lgle, z_lgz, Option.getD_some, Option.isSome_some, ↓reduceIte, not_true_eq_false, not_false_eq_true, Option.toList_some, Option.toList_none, List.cons_append, List.nil_append, Nat.reduceAdd, Nat.add_assoc, ku_ne, ku_same, ne_eq, Nat.reduceEqDiff, reduceCtorEq, Nat.add_eq_left, Nat.left_eq_add, Nat.reduceEqDiff, q10, q_ne, true_or, or_true, hx_k h, hx_r0 h, hx_r1 h, hx_r2 h, hx_r3 h, hx_r4 h, hx_r5 h, al_k hA, al_r0 hA, al_r1 hA, al_r2 hA, al_k14 hA, hA.1, hn, show ((12 : Int32) < 12) = False from eq_false (by decide)]
theorem c_keepF (h : Hx g) (hA : Al g) (hn : I 13 3 = nI n) (hn2 : n < 12) (ha : hf_rn 4 0 [some (.ref 13), some (.ref 2), some (.long (J 0 7)), none, some (.int (I 0 8)), none, none] [] g I J = some (.inl (some (.int x)), g, I2, J2)) : hf_rn 122 0 [some (.ref 0)] [] g I J = some (.inl (some (.int x)), g, I2, J2) := by
  have hS : Sc g 1 := hx_sc1 h
  have hG : Gr g 2 := sc_gr1 hS
  have f : hf_r g 1 0 = some 2 := sc_r0 hS
  have hlt : (nI n < 12) = True := by rw [show (12 : Int32) = nI 12 from rfl, z_il (by omega) (by decide)]; exact eq_true (by omega)
  simp only [s122_0, s122_1, s122_4, s122_7, s122_9, s122_12, s122_22, s122_23, s122_26, s122_27, s122_30, s122_33, s122_34, s122_37, s122_38, s122_41, s122_44, hf_bd_v, hf_bd_n, hf_iv_i, hf_iv_l, hf_iv_a, hf_iv_n, hf_iv_2, z_lgl, z_lgg, z_lge, z_lgle, z_lgz, Option.getD_some, Option.isSome_some, ↓reduceIte, not_true_eq_false, not_false_eq_true, Option.toList_some, Option.toList_none, List.cons_append, List.nil_append, Nat.reduceAdd, Nat.add_assoc, ku_ne, ku_same, ne_eq, Nat.reduceEqDiff, reduceCtorEq, Nat.add_eq_left, Nat.left_eq_add, Nat.reduceEqDiff, q10, q_ne, true_or, or_true, hx_k h, hx_r0 h, hx_r1 h, hx_r2 h, hx_r3 h, hx_r4 h, hx_r5 h, al_k hA, al_r0 hA, al_r1 hA, al_r2 hA, al_k14 hA, h.1, hS.1, hG.1, hA.1, f, hn, hlt, ha]
end
