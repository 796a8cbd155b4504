/-! ALBUM: galaxies grow -/
def gw (J : hf_J) (n : Nat) (Ga : Nat → Nat → Int64) : hf_J := fun a => if 50 ≤ a ∧ (a - 50) % 17 = 0 ∧ (a - 50) / 17 < n then Ga ((a - 50) / 17) else J a
def gU (Ga : Nat → Nat → Int64) (i : Nat) (E : Nat → Int64) : Nat → Nat → Int64 := fun x => if x = i then E else Ga x
section
variable {g : hf_G} {I : hf_I} {J J2 : hf_J} {P G c k m n q a b s i : Nat} {u v w : Int64} {j : Int32} {cn : Nat → Nat} {Hs : Nat → Nat → Int64} {nx : Nat → Nat → Option (Nat × Nat)} {e : Int} {Ga : Nat → Nat → Int64} {E : Nat → Int64}
theorem gw_at (hi : i < n) : gw J n Ga (34 + 17 * i + 16) = Ga i := by
  have h1 : (34 + 17 * i + 16 - 50) / 17 = i := by omega
  rw [gw, if_pos (by omega), h1]
theorem gw_ne (h : ∀ i, i < n → a ≠ 34 + 17 * i + 16) : gw J n Ga a = J a := by
  rw [gw, if_neg]
  rintro ⟨h1, h2, h3⟩
  exact h _ h3 (by omega)
theorem gw_w (hi : i < n) : hf_w (gw J n Ga) (34 + 17 * i + 16) E = gw J n (gU Ga i E) := by
  funext x
  by_cases c : x = 34 + 17 * i + 16
  · subst c
    rw [kw_row, gw_at hi, gU, if_pos rfl]
  · rw [kw_ne c, gw, gw]
    split
    · rw [gU, if_neg (by omega)]
    · rfl
theorem gw_u (hi : i < n) : hf_u (gw J n Ga) (34 + 17 * i + 16) k v = gw J n (gU Ga i (up (Ga i) k v)) := by
  rw [ku_as_w, gw_w hi, gw_at hi]
  rfl
theorem gw_0 : gw J n (fun i => J (34 + 17 * i + 16)) = J := by
  funext x
  rw [gw]
  split
  · rename_i h
    rw [show 34 + 17 * ((x - 50) / 17) + 16 = x by omega]
  · rfl
theorem gw_self (hi : i < n) : hf_w (gw J n Ga) (34 + 17 * i + 16) (Ga i) = gw J n Ga := by rw [kw_id (gw_at hi).symm]
theorem alb_gw (h : Alb g I J n cn Hs nx) : Alb g I (gw J n Ga) n cn Hs nx := alb_fr h (fun i hi => gw_ne (by omega)) (fun i hi => gw_ne (by omega))
theorem gU_gU {E2 : Nat → Int64} : gU (gU Ga i E) i E2 = gU Ga i E2 := by
  funext x
  unfold gU
  split <;> rfl
theorem gU_s : gU Ga i E i = E := if_pos rfl
theorem gU_n (h : m ≠ i) : gU Ga i E m = Ga m := if_neg h
/-- what a halo has goes on into another -/
def h4E (F E : Nat → Int64) (k h t : Nat) : Nat → Int64 := it t E fun w E => up E (4 * h + w) (E (4 * h + w) + F (4 * k + w))
def hoG (nx : Nat → Nat → Option (Nat × Nat)) (i k : Nat) (Ga : Nat → Nat → Int64) : Nat → Nat → Int64 := match nx i k with
  | none => Ga
  | some (j, h) => gU Ga j (h4E (Ga i) (Ga j) k h 4)
theorem c_handOn (h : Alb g I J n cn Hs nx) (hi : i < n) (hk : k < cn i) : hf_rn 14 0 [some (.ref 13), some (.ref (34 + 17 * i)), some (.int (nI k)), none, none, none] [] g I (gw J n Ga) = some (.inl none, g, I, gw J n (hoG nx i k Ga)) := by
  have hn := h.2.1
  have hA := h.1
  have hB : Alb g I (gw J n Ga) n cn Hs nx := alb_gw h
  have hP := al_pc hA i (by omega)
  have hki : k < ctZ n cn (i : Int) := by rw [ctZ, if_pos ⟨by omega, by omega⟩]; exact hk
  have hgo := alb_go hB hki
  rw [show ((i : Int)).toNat = i from rfl, pZ_in (by omega) (by omega), show ((i : Int)).toNat = i from rfl] at hgo
  have h64 := (h.2.2.2.2.1 i hi).1
  cases hnx : nx i k with
  | none =>
    rw [hnx] at hgo
    simp only [s14_0, s14_1, s14_2, s14_5, s14_6, s14_7, s14_8, s14_11, s14_12, s14_13, s14_14, s14_16, s14_17, s14_20, s14_22, s14_23, s14_55, hf_bd_v, hf_bd_n, hf_iv_i, hf_iv_l, hf_iv_a, hf_iv_n, hf_iv_2, z_lgl, z_lgg, z_lge, z_lgle, z_lgz, Option.getD_some, Option.isSome_some, ↓reduceIte, not_true_eq_false, not_false_eq_true, Option.toList_some, Option.toList_none, List.cons_append, List.nil_append, Nat.reduceAdd, Nat.add_assoc, ku_ne, ku_same, ne_eq, Nat.reduceEqDiff, reduceCtorEq, Nat.add_eq_left, Nat.left_eq_add, Nat.reduceEqDiff, q10, q_ne, true_or, or_true, hP.1, hgo, cdI, hoG, hnx]
  | some jh =>
    obtain ⟨j, y⟩ := jh
    obtain ⟨p1, p2, p3⟩ := h.2.2.2.2.2.2.2 i k j y hi hk hnx
    have hj64 := (h.2.2.2.2.1 j p2).1
    rw [hnx] at hgo
    have hQ := al_pc hA j (by omega)
    have hnl : ¬ nI (100 * j + y) = -1 := by
      rw [nI_iZ, show (-1 : Int32) = iZ (-1) from rfl, iZ_eq (iRs (by omega) (by omega)) (iRs (by omega) (by omega))]; omega
    have hat := alb_at (e := (j : Int)) hB (by omega) (by omega)
    rw [← nI_iZ, pZ_in (by omega) (by omega), show ((j : Int)).toNat = j from rfl] at hat
    have loop : ∀ (d t : Nat), t + d = 4 → hf_rn 14 25 [some (.ref 13), some (.ref (34 + 17 * i)), some (.int (nI k)), some (.int (nI (100 * j + y))), some (.ref (34 + 17 * j)), some (.int (nI t))] [] g I (gw J n (gU Ga j (h4E (Ga i) (Ga j) k y t))) = some (.inl none, g, I, gw J n (hoG nx i k Ga)) := by
      intro d
      induction d with
      | zero =>
        intro t ht
        have e1 : t = 4 := by omega
        subst e1
        have h4 : (4 : Int32) ≤ nI 4 := by decide
        simp only [s14_25, s14_27, s14_28, s14_31, s14_33, s14_34, s14_36, s14_37, s14_39, s14_40, s14_41, s14_43, s14_46, s14_49, s14_55, hf_bd_v, hf_bd_n, hf_iv_i, hf_iv_l, hf_iv_a, hf_iv_n, hf_iv_2, z_lgl, z_lgg, z_lge, z_lgle, z_lgz, Option.getD_some, Option.isSome_some, ↓reduceIte, not_true_eq_false, not_false_eq_true, Option.toList_some, Option.toList_none, List.cons_append, List.nil_append, Nat.reduceAdd, Nat.add_assoc, ku_ne, ku_same, ne_eq, Nat.reduceEqDiff, reduceCtorEq, Nat.add_eq_left, Nat.left_eq_add, Nat.reduceEqDiff, q10, q_ne, true_or, or_true, h4, hoG, hnx]
      | succ d ih =>
        intro t ht
        have h4 : ((4 : Int32) ≤ nI t) = (4 ≤ t) := z_ii (a := 4) (by decide) (by omega)
        have hk1 : ¬ 4 ≤ t := by omega
        have hga := c_gasOf (I := I) (J := gw J n (gU Ga j (h4E (Ga i) (Ga j) k y t))) hP (show 4 * k + t < 256 by omega)
        rw [gw_at hi, gU_n (show i ≠ j by omega)] at hga
        have had := fun v => c_addGas (I := I) (J := gw J n (gU Ga j (h4E (Ga i) (Ga j) k y t))) (v := v) hQ (show 4 * y + t < 256 by omega)
        simp only [gw_at p2, gw_u p2, gU_s, gU_gU] at had
        simp only [s14_25, s14_27, s14_28, s14_31, s14_33, s14_34, s14_36, s14_37, s14_39, s14_40, s14_41, s14_43, s14_46, s14_49, hf_bd_v, hf_bd_n, hf_iv_i, hf_iv_l, hf_iv_a, hf_iv_n, hf_iv_2, z_lgl, z_lgg, z_lge, z_lgle, z_lgz, Option.getD_some, Option.isSome_some, ↓reduceIte, not_true_eq_false, not_false_eq_true, Option.toList_some, Option.toList_none, List.cons_append, List.nil_append, Nat.reduceAdd, Nat.add_assoc, ku_ne, ku_same, ne_eq, Nat.reduceEqDiff, reduceCtorEq, Nat.add_eq_left, Nat.left_eq_add, Nat.reduceEqDiff, q10, q_ne, true_or, or_true, h4, hk1, hP.1, hQ.1, hga, had, z_1, qi100, crm (show y < 100 by omega) (show j < 1000 by omega), cdv (show y < 100 by omega) (show j < 1000 by omega), rm100 (show 100 * j + y < 2147483648 by omega)]
        first
        | rw [s14_52]; exact ih (t + 1) (by omega)
        | skip
    have e0 : gw J n (gU Ga j (h4E (Ga i) (Ga j) k y 0)) = gw J n Ga := by
      congr 1
      funext x
      unfold gU
      split
      · rename_i hx; rw [hx]; rfl
      · rfl
    have key := loop 4 0 rfl
    rw [e0] at key
    simp only [s14_0, s14_1, s14_2, s14_5, s14_6, s14_7, s14_8, s14_11, s14_12, s14_13, s14_14, s14_16, s14_17, s14_20, s14_22, s14_23, hf_bd_v, hf_bd_n, hf_iv_i, hf_iv_l, hf_iv_a, hf_iv_n, hf_iv_2, z_lgl, z_lgg, z_lge, z_lgle, z_lgz, Option.getD_some, Option.isSome_some, ↓reduceIte, not_true_eq_false, not_false_eq_true, Option.toList_some, Option.toList_none, List.cons_append, List.nil_append, Nat.reduceAdd, Nat.add_assoc, ku_ne, ku_same, ne_eq, Nat.reduceEqDiff, reduceCtorEq, Nat.add_eq_left, Nat.left_eq_add, Nat.reduceEqDiff, q10, q_ne, true_or, or_true, hP.1, hgo, cdI, hnl, hA.1, qi100, cdv (show y < 100 by omega) (show j < 1000 by omega), hat]
    exact key
/-- all galaxies at their begin -/
def g1F (cn : Nat → Nat) (Hs : Nat → Nat → Int64) (Ga : Nat → Nat → Int64) (t : Nat) : Int64 × (Nat → Nat → Int64) := it t (0, Ga) fun i p => (p.1 ||| it (cn i) 0 (fun k s => s ||| Hs i k), gU p.2 i (bgE (Hs i) p.1 (p.2 i) (cn i)))
def g2K (nx : Nat → Nat → Option (Nat × Nat)) (co fo wi : Int64) (i : Nat) (Ga : Nat → Nat → Int64) (t : Nat) : Nat → Nat → Int64 := it t Ga fun k Ga => hoG nx i k (gU Ga i (urE co fo wi (Ga i) k))
def g2F (cn : Nat → Nat) (nx : Nat → Nat → Option (Nat × Nat)) (co fo wi : Int64) (Ga : Nat → Nat → Int64) (t : Nat) : Nat → Nat → Int64 := it t Ga fun i Ga => g2K nx co fo wi i Ga (cn i)
theorem c_grow (h : Alb g I J n cn Hs nx) (h4 : J 13 4 = u) (h5 : J 13 5 = v) (h6 : J 13 6 = w) : hf_rn 13 0 [some (.ref 13), none, none, none, none, none] [] g I J = some (.inl none, g, I, gw J n (g2F cn nx u v w (g1F cn Hs (fun i => J (34 + 17 * i + 16)) n).2 n)) := by
  have hn := h.2.1
  have hA := h.1
  obtain ⟨E0, hE0⟩ : ∃ E0, E0 = fun i => J (34 + 17 * i + 16) := ⟨_, rfl⟩
  rw [← hE0]
  have inner : ∀ (x : Int64) (i : Nat) (Ga : Nat → Nat → Int64) (Q : Option hf_R), i < n → (∀ l4 l5, hf_rn 13 44 [some (.ref 13), some (.long x), none, some (.int (nI (i + 1))), l4, l5] [] g I (gw J n (g2K nx u v w i Ga (cn i))) = Q) →
      ∀ (d t : Nat), t + d = cn i → hf_rn 13 62 [some (.ref 13), some (.long x), none, some (.int (nI i)), some (.ref (34 + 17 * i)), some (.int (nI t))] [] g I (gw J n (g2K nx u v w i Ga t)) = Q := by
    intro x i Ga Q hi hQ d
    obtain ⟨A, hAd⟩ : ∃ A, A = 34 + 17 * i := ⟨_, rfl⟩
    have hP : Pc g A := by rw [hAd]; exact al_pc hA i (by omega)
    have hS := pc_sc1 hP
    have hci : cn i ≤ 64 ∧ I (A + 1) 2 = nI (cn i) := by rw [hAd]; exact h.2.2.2.2.1 i hi
    rw [← hAd]
    have h64 := hci.1
    induction d with
    | zero =>
      intro t ht
      have e1 : t = cn i := by omega
      rw [e1]
      simp only [s13_62, s13_64, s13_66, s13_69, s13_72, s13_75, s13_77, s13_79, s13_80, s13_83, s13_84, s13_87, s13_88, s13_91, s13_94, s13_95, s13_97, s13_99, s13_102, s13_105, s13_108, hf_bd_v, hf_bd_n, hf_iv_i, hf_iv_l, hf_iv_a, hf_iv_n, hf_iv_2, z_lgl, z_lgg, z_lge, z_lgle, z_lgz, Option.getD_some, Option.isSome_some, ↓reduceIte, not_true_eq_false, not_false_eq_true, Option.toList_some, Option.toList_none, List.cons_append, List.nil_append, Nat.reduceAdd, Nat.add_assoc, ku_ne, ku_same, ne_eq, Nat.reduceEqDiff, reduceCtorEq, Nat.add_eq_left, Nat.left_eq_add, Nat.reduceEqDiff, q10, q_ne, true_or, or_true, pc_k hP, pc_r0 hP, pc_r1 hP, pc_r2 hP, hS.1, hci.2, z_ii (show cn i < 2147483648 by omega) (show cn i < 2147483648 by omega), Nat.le_refl, z_1]
      rw [s13_111]
      exact hQ _ _
    | succ d ih =>
      intro t ht
      have hk1 : ¬ cn i ≤ t := by omega
      have n4 : gw J n (g2K nx u v w i Ga t) 13 = J 13 := gw_ne (by omega)
      have hur := c_useRecipes (I := I) (J := gw J n (g2K nx u v w i Ga t)) (E := g2K nx u v w i Ga t i) (u := u) (v := v) (w := w) hP (show t < 64 by omega)
      rw [hAd, gw_self hi, gw_w hi, ← hAd] at hur
      have hho := c_handOn (Ga := gU (g2K nx u v w i Ga t) i (urE u v w (g2K nx u v w i Ga t i) t)) h hi (show t < cn i by omega)
      rw [← hAd] at hho
      simp only [s13_62, s13_64, s13_66, s13_69, s13_72, s13_75, s13_77, s13_79, s13_80, s13_83, s13_84, s13_87, s13_88, s13_91, s13_94, s13_95, s13_97, s13_99, s13_102, hf_bd_v, hf_bd_n, hf_iv_i, hf_iv_l, hf_iv_a, hf_iv_n, hf_iv_2, z_lgl, z_lgg, z_lge, z_lgle, z_lgz, Option.getD_some, Option.isSome_some, ↓reduceIte, not_true_eq_false, not_false_eq_true, Option.toList_some, Option.toList_none, List.cons_append, List.nil_append, Nat.reduceAdd, Nat.add_assoc, ku_ne, ku_same, ne_eq, Nat.reduceEqDiff, reduceCtorEq, Nat.add_eq_left, Nat.left_eq_add, Nat.reduceEqDiff, q10, q_ne, true_or, or_true, pc_k hP, pc_r0 hP, pc_r1 hP, pc_r2 hP, hS.1, hP.1, hA.1, hci.2, z_ii (show cn i < 2147483648 by omega) (show t < 2147483648 by omega), hk1, z_1, n4, h4, h5, h6, hur, hho]
      rw [s13_105]
      exact ih (t + 1) (by omega)
  have loop2 : ∀ (Ga : Nat → Nat → Int64) (x : Int64) (d t : Nat) (l4 l5 : Option Value), t + d = n → hf_rn 13 44 [some (.ref 13), some (.long x), none, some (.int (nI t)), l4, l5] [] g I (gw J n (g2F cn nx u v w Ga t)) = some (.inl none, g, I, gw J n (g2F cn nx u v w Ga n)) := by
    intro Ga x d
    induction d with
    | zero =>
      intro t l4 l5 ht
      have e1 : t = n := by omega
      rw [e1]
      simp only [s13_44, s13_45, s13_46, s13_49, s13_52, s13_53, s13_54, s13_57, s13_59, s13_60, s13_114, hf_bd_v, hf_bd_n, hf_iv_i, hf_iv_l, hf_iv_a, hf_iv_n, hf_iv_2, z_lgl, z_lgg, z_lge, z_lgle, z_lgz, Option.getD_some, Option.isSome_some, ↓reduceIte, not_true_eq_false, not_false_eq_true, Option.toList_some, Option.toList_none, List.cons_append, List.nil_append, Nat.reduceAdd, Nat.add_assoc, ku_ne, ku_same, ne_eq, Nat.reduceEqDiff, reduceCtorEq, Nat.add_eq_left, Nat.left_eq_add, Nat.reduceEqDiff, q10, q_ne, true_or, or_true, al_k hA, al_r0 hA, al_r1 hA, al_r2 hA, al_k14 hA, h.2.2.1, z_ii (show n < 2147483648 by omega) (show n < 2147483648 by omega), Nat.le_refl]
    | succ d ih =>
      intro t l4 l5 ht
      have hk1 : ¬ n ≤ t := by omega
      have hat := alb_at (e := (t : Int)) (@alb_gw g I J n cn Hs nx (g2F cn nx u v w Ga t) h) (by omega) (by omega)
      rw [← nI_iZ, pZ_in (by omega) (by omega), show ((t : Int)).toNat = t from rfl] at hat
      simp only [s13_44, s13_45, s13_46, s13_49, s13_52, s13_53, s13_54, s13_57, s13_59, s13_60, hf_bd_v, hf_bd_n, hf_iv_i, hf_iv_l, hf_iv_a, hf_iv_n, hf_iv_2, z_lgl, z_lgg, z_lge, z_lgle, z_lgz, Option.getD_some, Option.isSome_some, ↓reduceIte, not_true_eq_false, not_false_eq_true, Option.toList_some, Option.toList_none, List.cons_append, List.nil_append, Nat.reduceAdd, Nat.add_assoc, ku_ne, ku_same, ne_eq, Nat.reduceEqDiff, reduceCtorEq, Nat.add_eq_left, Nat.left_eq_add, Nat.reduceEqDiff, q10, q_ne, true_or, or_true, al_k hA, al_r0 hA, al_r1 hA, al_r2 hA, al_k14 hA, hA.1, h.2.2.1, z_ii (show n < 2147483648 by omega) (show t < 2147483648 by omega), hk1, z_1, hat]
      exact inner x t (g2F cn nx u v w Ga t) _ (by omega) (fun l4 l5 => ih (t + 1) l4 l5 (by omega)) (cn t) 0 (by omega)
  have loop1 : ∀ (d t : Nat) (x : Int64) (Ga : Nat → Nat → Int64) (l4 l5 : Option Value), t + d = n → (x, Ga) = g1F cn Hs E0 t → hf_rn 13 4 [some (.ref 13), some (.long x), none, some (.int (nI t)), l4, l5] [] g I (gw J n Ga) = some (.inl none, g, I, gw J n (g2F cn nx u v w (g1F cn Hs E0 n).2 n)) := by
    intro d
    induction d with
    | zero =>
      intro t x Ga l4 l5 ht hx
      have e1 : t = n := by omega
      subst e1
      rw [← hx]
      simp only [s13_4, s13_5, s13_6, s13_9, s13_12, s13_13, s13_14, s13_17, s13_19, s13_21, s13_22, s13_25, s13_26, s13_28, s13_31, s13_34, s13_35, s13_36, s13_42, s13_43, hf_bd_v, hf_bd_n, hf_iv_i, hf_iv_l, hf_iv_a, hf_iv_n, hf_iv_2, z_lgl, z_lgg, z_lge, z_lgle, z_lgz, Option.getD_some, Option.isSome_some, ↓reduceIte, not_true_eq_false, not_false_eq_true, Option.toList_some, Option.toList_none, List.cons_append, List.nil_append, Nat.reduceAdd, Nat.add_assoc, ku_ne, ku_same, ne_eq, Nat.reduceEqDiff, reduceCtorEq, Nat.add_eq_left, Nat.left_eq_add, Nat.reduceEqDiff, q10, q_ne, true_or, or_true, al_k hA, al_r0 hA, al_r1 hA, al_r2 hA, al_k14 hA, h.2.2.1, z_ii (show t < 2147483648 by omega) (show t < 2147483648 by omega), Nat.le_refl]
      exact loop2 Ga x t 0 l4 l5 (by omega)
    | succ d ih =>
      intro t x Ga l4 l5 ht hx
      have hk1 : ¬ n ≤ t := by omega
      obtain ⟨A, hAd⟩ : ∃ A, A = 34 + 17 * t := ⟨_, rfl⟩
      have hP : Pc g A := by rw [hAd]; exact al_pc hA t (by omega)
      have hS := pc_sc1 hP
      have hct : cn t ≤ 64 ∧ I (A + 1) 2 = nI (cn t) := by rw [hAd]; exact h.2.2.2.2.1 t (by omega)
      have hat := alb_at (e := (t : Int)) (@alb_gw g I J n cn Hs nx Ga h) (by omega) (by omega)
      rw [← nI_iZ, pZ_in (by omega) (by omega), show ((t : Int)).toNat = t from rfl, ← hAd] at hat
      have hbg := c_beginG (I := I) (J := gw J n Ga) (v := x) hP hct.2 hct.1
      rw [hAd, gw_at (show t < n by omega), gw_w (show t < n by omega), gw_ne (show ∀ i, i < n → 34 + 17 * t + 12 ≠ 34 + 17 * i + 16 by omega), h.2.2.2.2.2.1 t (by omega), ← hAd] at hbg
      have ham := c_allMembers (I := I) (J := gw J n (gU Ga t (bgE (Hs t) x (Ga t) (cn t)))) hS hct.2 hct.1
      rw [hAd, gw_ne (show ∀ i, i < n → 34 + 17 * t + 1 + 11 ≠ 34 + 17 * i + 16 by omega), show 34 + 17 * t + 1 + 11 = 34 + 17 * t + 12 by omega, h.2.2.2.2.2.1 t (by omega), ← hAd] at ham
      simp only [s13_4, s13_5, s13_6, s13_9, s13_12, s13_13, s13_14, s13_17, s13_19, s13_21, s13_22, s13_25, s13_26, s13_28, s13_31, s13_34, s13_35, s13_36, hf_bd_v, hf_bd_n, hf_iv_i, hf_iv_l, hf_iv_a, hf_iv_n, hf_iv_2, z_lgl, z_lgg, z_lge, z_lgle, z_lgz, Option.getD_some, Option.isSome_some, ↓reduceIte, not_true_eq_false, not_false_eq_true, Option.toList_some, Option.toList_none, List.cons_append, List.nil_append, Nat.reduceAdd, Nat.add_assoc, ku_ne, ku_same, ne_eq, Nat.reduceEqDiff, reduceCtorEq, Nat.add_eq_left, Nat.left_eq_add, Nat.reduceEqDiff, q10, q_ne, true_or, or_true, al_k hA, al_r0 hA, al_r1 hA, al_r2 hA, al_k14 hA, pc_k hP, pc_r0 hP, pc_r1 hP, pc_r2 hP, hP.1, hS.1, hA.1, h.2.2.1, z_ii (show n < 2147483648 by omega) (show t < 2147483648 by omega), hk1, z_1, hat, hbg, ham]
      rw [s13_39]
      exact ih (t + 1) _ _ _ _ (by omega) (by rw [g1F, it_s, ← g1F, ← hx])
  have key := loop1 n 0 0 E0 none none (by omega) rfl
  rw [show gw J n E0 = J from by rw [hE0, gw_0]] at key
  simp only [s13_0, s13_1, s13_2, s13_3, hf_bd_v, hf_bd_n, hf_iv_i, hf_iv_l, hf_iv_a, hf_iv_n, hf_iv_2, z_lgl, z_lgg, z_lge, z_lgle, z_lgz, Option.getD_some, Option.isSome_some, ↓reduceIte, not_true_eq_false, not_false_eq_true, Option.toList_some, Option.toList_none, List.cons_append, List.nil_append, Nat.reduceAdd, Nat.add_assoc, ku_ne, ku_same, ne_eq, Nat.reduceEqDiff, reduceCtorEq, Nat.add_eq_left, Nat.left_eq_add, Nat.reduceEqDiff, q10, q_ne, true_or, or_true]
  exact key
theorem c_recipes {co fo wi : Int32} (h : Alb g I J n cn Hs nx) : hf_rn 12 0 [some (.ref 13), some (.int co), some (.int fo), some (.int wi)] [] g I J = some (.inl none, g, I, gw (hf_u (hf_u (hf_u J 13 4 co.toInt64) 13 5 fo.toInt64) 13 6 wi.toInt64) n (g2F cn nx co.toInt64 fo.toInt64 wi.toInt64 (g1F cn Hs (fun i => J (34 + 17 * i + 16)) n).2 n)) := by
  have hA := h.1
  have hn := h.2.1
  have hB : Alb g I (hf_u (hf_u (hf_u J 13 4 co.toInt64) 13 5 fo.toInt64) 13 6 wi.toInt64) n cn Hs nx := alb_fr h (fun i hi => by rw [ku_ne (by omega), ku_ne (by omega), ku_ne (by omega)]) (fun i hi => by rw [ku_ne (by omega), ku_ne (by omega), ku_ne (by omega)])
  have hg := c_grow (u := co.toInt64) (v := fo.toInt64) (w := wi.toInt64) hB (by rw [ku_ix (by decide), ku_ix (by decide), ku_same]) (by rw [ku_ix (by decide), ku_same]) ku_same
  have e1 : (fun i => hf_u (hf_u (hf_u J 13 4 co.toInt64) 13 5 fo.toInt64) 13 6 wi.toInt64 (34 + 17 * i + 16)) = fun i => J (34 + 17 * i + 16) := by funext i; rw [ku_ne (by omega), ku_ne (by omega), ku_ne (by omega)]
  rw [e1] at hg
  simp only [s12_0, s12_1, s12_2, s12_3, s12_6, s12_7, s12_8, s12_9, s12_12, s12_13, s12_14, s12_15, s12_18, s12_19, s12_22, hf_bd_v, hf_bd_n, hf_iv_i, hf_iv_l, hf_iv_a, hf_iv_n, hf_iv_2, z_lgl, z_lgg, z_lge, z_lgle, z_lgz, Option.getD_some, Option.isSome_some, ↓reduceIte, not_true_eq_false, not_false_eq_true, Option.toList_some, Option.toList_none, List.cons_append, List.nil_append, Nat.reduceAdd, Nat.add_assoc, ku_ne, ku_same, ne_eq, Nat.reduceEqDiff, reduceCtorEq, Nat.add_eq_left, Nat.left_eq_add, Nat.reduceEqDiff, q10, q_ne, true_or, or_true, al_k hA, al_r0 hA, al_r1 hA, al_r2 hA, al_k14 hA, hA.1, hg]
end
