/-! ALBUM: tree size, what does not go on -/
section
variable {g : hf_G} {I : hf_I} {J J2 : hf_J} {P G c k m n q a b s : Nat} {u v w : Int64} {j : Int32} {cn : Nat → Nat} {Hs : Nat → Nat → Int64} {nx : Nat → Nat → Option (Nat × Nat)} {e : Int} {R : Nat → Int64}
theorem alb_fr (h : Alb g I J n cn Hs nx) (h12 : ∀ i, i < n → J2 (34 + 17 * i + 12) = J (34 + 17 * i + 12)) (h14 : ∀ i, i < n → J2 (34 + 17 * i + 14) = J (34 + 17 * i + 14)) : Alb g I J2 n cn Hs nx := by
  obtain ⟨a1, a2, a3, a4, a5, a6, a7, a8⟩ := h
  exact ⟨a1, a2, a3, a4, a5, fun i hi => by rw [h12 i hi, a6 i hi], fun i k hi hk => by rw [h14 i hi, a7 i k hi hk], a8⟩
theorem alb_w (h : Alb g I J n cn Hs nx) (hx : a < 34 ∨ 34 + 17 * 12 ≤ a) : Alb g I (hf_w J a R) n cn Hs nx := by
  have := h.2.1
  exact alb_fr h (fun i hi => kw_ne (by omega)) (fun i hi => kw_ne (by omega))
/-- the pictures before m are looked through for what leads to those reached -/
def tsR (cn : Nat → Nat) (nx : Nat → Nat → Option (Nat × Nat)) : Nat → (Nat → Int64) → Int32 → (Nat → Int64) × Int32
  | 0, R, s => (R, s)
  | m + 1, R, s => tsR cn nx m (up R m (orL (cn m) (ldP nx R m))) (s + popI (orL (cn m) (ldP nx R m)))
theorem c_tree {i : Nat} (h : Alb g I J n cn Hs nx) (hi : i < n) (hk : k < cn i) : hf_rn 10 0 [some (.ref 13), some (.int (nI i)), some (.int (nI k)), none, none] [] g I J = some (.inl (some (.int (tsR cn nx i (up (fun j => if j < 12 then 0 else J 33 j) i (bitL k)) 1).2)), g, I, hf_w J 33 (tsR cn nx i (up (fun j => if j < 12 then 0 else J 33 j) i (bitL k)) 1).1) := by
  have hn := h.2.1
  have hA := h.1
  have hr := al_rw32 hA
  have h64 := (h.2.2.2.2.1 i hi).1
  have loop : ∀ (m : Nat) (R : Nat → Int64) (x y : Int32), m ≤ i → y = iZ ((m : Int) - 1) → hf_rn 10 27 [some (.ref 13), some (.int (nI i)), some (.int (nI k)), some (.int x), some (.int y)] [] g I (hf_w J 33 R) = some (.inl (some (.int (tsR cn nx m R x).2)), g, I, hf_w J 33 (tsR cn nx m R x).1) := by
    intro m
    induction m with
    | zero =>
      intro R x y hm hy
      have h1 : y < 0 := by rw [hy]; decide
      simp only [s10_0, s10_1, s10_4, s10_5, s10_8, s10_9, s10_12, s10_13, s10_14, s10_17, s10_20, s10_21, s10_22, s10_23, s10_24, s10_25, s10_27, s10_29, s10_32, s10_33, s10_36, s10_38, s10_39, s10_40, s10_42, s10_45, s10_48, s10_51, s10_52, s10_53, s10_56, s10_58, s10_61, s10_64, s10_65, s10_66, s10_72, s10_73, hf_bd_v, hf_bd_n, hf_iv_i, hf_iv_l, hf_iv_a, hf_iv_n, hf_iv_2, z_lgl, z_lgg, z_lge, z_lgle, z_lgz, Option.getD_some, Option.isSome_some, ↓reduceIte, not_true_eq_false, not_false_eq_true, Option.toList_some, Option.toList_none, List.cons_append, List.nil_append, Nat.reduceAdd, Nat.add_assoc, ku_ne, ku_same, ne_eq, Nat.reduceEqDiff, reduceCtorEq, Nat.add_eq_left, Nat.left_eq_add, Nat.reduceEqDiff, q10, q_ne, true_or, or_true, h1, tsR]
    | succ m ih =>
      intro R x y hm hy
      have hy2 : y = iZ (m : Int) := by rw [hy]; congr 1; omega
      have hy3 : y = nI m := by rw [hy2, nI_iZ]
      have h1 : ¬ y < 0 := by rw [hy3]; exact nI_pos (by omega)
      have hB : Alb g I (hf_w J 33 R) n cn Hs nx := alb_w h (by omega)
      have hat := alb_at (e := (m : Int)) hB (by omega) (by omega)
      have hld := @c_leading g I (hf_w J 33 R) n cn Hs nx (m : Int) hB
      rw [kw_row, show ((m : Int)).toNat = m from rfl, show ctZ n cn (m : Int) = cn m from by rw [ctZ, if_pos ⟨by omega, by omega⟩]; rfl] at hld
      rw [← nI_iZ] at hat
      subst hy3
      simp only [s10_27, s10_29, s10_32, s10_33, s10_36, s10_38, s10_39, s10_40, s10_42, s10_45, s10_48, s10_51, s10_52, s10_53, s10_56, s10_58, s10_61, s10_64, s10_65, s10_66, hf_bd_v, hf_bd_n, hf_iv_i, hf_iv_l, hf_iv_a, hf_iv_n, hf_iv_2, z_lgl, z_lgg, z_lge, z_lgle, z_lgz, Option.getD_some, Option.isSome_some, ↓reduceIte, not_true_eq_false, not_false_eq_true, Option.toList_some, Option.toList_none, List.cons_append, List.nil_append, Nat.reduceAdd, Nat.add_assoc, ku_ne, ku_same, ne_eq, Nat.reduceEqDiff, reduceCtorEq, Nat.add_eq_left, Nat.left_eq_add, Nat.reduceEqDiff, q10, q_ne, true_or, or_true, h1, al_k hA, al_r0 hA, al_r1 hA, al_r2 hA, al_k14 hA, hA.1, hr.1, hat, hld, c_set hr (show m < 12 by omega), c_get hr (show m < 12 by omega), kuw, kw_row, up_s, c_pop]
      rw [s10_69, tsR]
      exact ih _ _ _ (by omega) (by rw [nI_iZ, iZ_d])
  have e : hf_u (rwm J 33 12 (fun _ => 0)) 33 i (bitL k) = hf_w J 33 (up (fun j => if j < 12 then 0 else J 33 j) i (bitL k)) := by rw [rwm_w, kuw]
  simp only [s10_0, s10_1, s10_4, s10_5, s10_8, s10_9, s10_12, s10_13, s10_14, s10_17, s10_20, s10_21, s10_22, s10_23, s10_24, s10_25, hf_bd_v, hf_bd_n, hf_iv_i, hf_iv_l, hf_iv_a, hf_iv_n, hf_iv_2, z_lgl, z_lgg, z_lge, z_lgle, z_lgz, Option.getD_some, Option.isSome_some, ↓reduceIte, not_true_eq_false, not_false_eq_true, Option.toList_some, Option.toList_none, List.cons_append, List.nil_append, Nat.reduceAdd, Nat.add_assoc, ku_ne, ku_same, ne_eq, Nat.reduceEqDiff, reduceCtorEq, Nat.add_eq_left, Nat.left_eq_add, Nat.reduceEqDiff, q10, q_ne, true_or, or_true, al_k hA, al_r0 hA, al_r1 hA, al_r2 hA, al_k14 hA, hr.1, c_fil hr, c_bit (show k < 64 by omega), c_set hr (show i < 12 by omega), e]
  exact loop i _ _ _ (Nat.le_refl _) (by rw [nI_m1])
/-- what a halo has of the four kinds -/
def fo4 (E : Nat → Int64) (k t : Nat) (s : Int64) : Int64 := it t s fun w s => s + E (4 * k + w)
def atA (nx : Nat → Nat → Option (Nat × Nat)) (E : Nat → Nat → Int64) (i : Nat) (t : Nat) (s : Int64) : Int64 := it t s fun k s => if nx i k = none then fo4 (E i) k 4 s else s
def atB (cn : Nat → Nat) (nx : Nat → Nat → Option (Nat × Nat)) (E : Nat → Nat → Int64) (t : Nat) : Int64 := it t 0 fun i s => atA nx E i (cn i) s
theorem cdI_n {i k : Nat} (h : Alb g I J n cn Hs nx) (hi : i < n) (hk : k < cn i) : (cdI (nx i k) = -1) = (nx i k = none) := by
  have hx := alb_nx h hi hk
  match nx i k, hx with
  | none, _ => simp [cdI]
  | some (a, b), hx =>
    obtain ⟨p, q⟩ := hx a b rfl
    rw [cdI, nI_iZ, show (-1 : Int32) = iZ (-1) from rfl, iZ_eq (iRs (by omega) (by omega)) (iRs (by omega) (by omega))]
    simp
    omega
theorem c_allThat (h : Alb g I J n cn Hs nx) : hf_rn 15 0 [some (.ref 13), none, none, none, none, none, none] [] g I J = some (.inl (some (.long (atB cn nx (fun i => J (34 + 17 * i + 16)) n))), g, I, J) := by
  have hn := h.2.1
  have hA := h.1
  have inner2 : ∀ (i k : Nat) (s0 : Int64) (Q : Option hf_R), i < n → k < cn i → (∀ l6, hf_rn 15 22 [some (.ref 13), some (.long (if nx i k = none then fo4 (J (34 + 17 * i + 16)) k 4 s0 else s0)), none, some (.int (nI i)), some (.ref (pZ n i)), some (.int (nI (k + 1))), l6] [] g I J = Q) →
      ∀ (d t : Nat) (x : Int64), t + d = 4 → (nx i k = none → x = fo4 (J (34 + 17 * i + 16)) k t s0) → (nx i k ≠ none → t = 0 ∧ x = s0) → hf_rn 15 38 [some (.ref 13), some (.long x), none, some (.int (nI i)), some (.ref (pZ n i)), some (.int (nI k)), some (.int (nI t))] [] g I J = Q := by
    intro i k s0 Q hi hk hQ d
    have hP := @al_pz g n (i : Int) hA hn
    have hki : k < ctZ n cn (i : Int) := by rw [ctZ, if_pos ⟨by omega, by omega⟩]; exact hk
    have hgo := alb_go h hki
    rw [show ((i : Int)).toNat = i from rfl] at hgo
    have hq := cdI_n h hi hk
    have h64 := (h.2.2.2.2.1 i hi).1
    induction d with
    | zero =>
      intro t x ht hx hx2
      have e1 : t = 4 := by omega
      subst e1
      have h4 : (4 : Int32) ≤ nI 4 := by decide
      have hnn : nx i k = none := Classical.byContradiction fun c => by have := (hx2 c).1; omega
      simp only [s15_38, s15_40, s15_41, s15_44, s15_46, s15_48, s15_51, s15_52, s15_55, s15_56, s15_58, s15_60, s15_62, s15_65, s15_66, s15_67, s15_70, s15_73, hf_bd_v, hf_bd_n, hf_iv_i, hf_iv_l, hf_iv_a, hf_iv_n, hf_iv_2, z_lgl, z_lgg, z_lge, z_lgle, z_lgz, Option.getD_some, Option.isSome_some, ↓reduceIte, not_true_eq_false, not_false_eq_true, Option.toList_some, Option.toList_none, List.cons_append, List.nil_append, Nat.reduceAdd, Nat.add_assoc, ku_ne, ku_same, ne_eq, Nat.reduceEqDiff, reduceCtorEq, Nat.add_eq_left, Nat.left_eq_add, Nat.reduceEqDiff, q10, q_ne, true_or, or_true, h4, z_1]
      rw [s15_76]
      have := hQ (some (.int (nI 4)))
      rw [if_pos hnn, ← hx hnn] at this
      exact this
    | succ d ih =>
      intro t x ht hx hx2
      have h4 : ((4 : Int32) ≤ nI t) = (4 ≤ t) := z_ii (a := 4) (by decide) (by omega)
      have hk1 : ¬ 4 ≤ t := by omega
      by_cases hnn : nx i k = none
      · have hq2 : (cdI (nx i k) = -1) = True := by rw [hq]; exact eq_true hnn
        have hga := c_gasOf (I := I) (J := J) hP (show 4 * k + t < 256 by omega)
        rw [show pZ n (i : Int) + 16 = 34 + 17 * i + 16 by rw [pZ_in (by omega) (by omega)]; rfl] at hga
        simp only [s15_38, s15_40, s15_41, s15_44, s15_46, s15_48, s15_51, s15_52, s15_55, s15_56, s15_58, s15_60, s15_62, s15_65, s15_66, s15_67, hf_bd_v, hf_bd_n, hf_iv_i, hf_iv_l, hf_iv_a, hf_iv_n, hf_iv_2, z_lgl, z_lgg, z_lge, z_lgle, z_lgz, Option.getD_some, Option.isSome_some, ↓reduceIte, not_true_eq_false, not_false_eq_true, Option.toList_some, Option.toList_none, List.cons_append, List.nil_append, Nat.reduceAdd, Nat.add_assoc, ku_ne, ku_same, ne_eq, Nat.reduceEqDiff, reduceCtorEq, Nat.add_eq_left, Nat.left_eq_add, Nat.reduceEqDiff, q10, q_ne, true_or, or_true, h4, hk1, hP.1, hgo, hq2, hga, z_1]
        rw [s15_70]
        exact ih (t + 1) _ (by omega) (fun _ => by rw [hx hnn]; rfl) (fun c => absurd hnn c)
      · have hq2 : (cdI (nx i k) = -1) = False := by rw [hq]; exact eq_false hnn
        simp only [s15_38, s15_40, s15_41, s15_44, s15_46, s15_48, s15_51, s15_52, s15_55, s15_56, s15_58, s15_60, s15_62, s15_65, s15_66, s15_67, s15_73, hf_bd_v, hf_bd_n, hf_iv_i, hf_iv_l, hf_iv_a, hf_iv_n, hf_iv_2, z_lgl, z_lgg, z_lge, z_lgle, z_lgz, Option.getD_some, Option.isSome_some, ↓reduceIte, not_true_eq_false, not_false_eq_true, Option.toList_some, Option.toList_none, List.cons_append, List.nil_append, Nat.reduceAdd, Nat.add_assoc, ku_ne, ku_same, ne_eq, Nat.reduceEqDiff, reduceCtorEq, Nat.add_eq_left, Nat.left_eq_add, Nat.reduceEqDiff, q10, q_ne, true_or, or_true, h4, hk1, hP.1, hgo, hq2, z_1]
        rw [s15_76]
        have := hQ (some (.int (nI t)))
        rw [if_neg hnn, ← (hx2 hnn).2] at this
        exact this
  have inner : ∀ (i : Nat) (s0 : Int64) (Q : Option hf_R), i < n → (∀ l4 l5 l6, hf_rn 15 4 [some (.ref 13), some (.long (atA nx (fun i => J (34 + 17 * i + 16)) i (cn i) s0)), none, some (.int (nI (i + 1))), l4, l5, l6] [] g I J = Q) →
      ∀ (d t : Nat) (x : Int64) (l6 : Option Value), t + d = cn i → x = atA nx (fun i => J (34 + 17 * i + 16)) i t s0 → hf_rn 15 22 [some (.ref 13), some (.long x), none, some (.int (nI i)), some (.ref (pZ n i)), some (.int (nI t)), l6] [] g I J = Q := by
    intro i s0 Q hi hQ d
    have hP := @al_pz g n (i : Int) hA hn
    have hS := pc_sc1 hP
    have hct := @alb_ct g I J n cn Hs nx (i : Int) h
    have hcc : ctZ n cn (i : Int) = cn i := by rw [ctZ, if_pos ⟨by omega, by omega⟩]; rfl
    rw [hcc] at hct
    have h64 := (h.2.2.2.2.1 i hi).1
    induction d with
    | zero =>
      intro t x l6 ht hx
      have e1 : t = cn i := by omega
      rw [e1]
      rw [e1] at hx
      simp only [s15_22, s15_24, s15_26, s15_29, s15_32, s15_35, s15_36, s15_79, hf_bd_v, hf_bd_n, hf_iv_i, hf_iv_l, hf_iv_a, hf_iv_n, hf_iv_2, z_lgl, z_lgg, z_lge, z_lgle, z_lgz, Option.getD_some, Option.isSome_some, ↓reduceIte, not_true_eq_false, not_false_eq_true, Option.toList_some, Option.toList_none, List.cons_append, List.nil_append, Nat.reduceAdd, Nat.add_assoc, ku_ne, ku_same, ne_eq, Nat.reduceEqDiff, reduceCtorEq, Nat.add_eq_left, Nat.left_eq_add, Nat.reduceEqDiff, q10, q_ne, true_or, or_true, pc_k hP, pc_r0 hP, pc_r1 hP, pc_r2 hP, hS.1, hct, z_ii (show cn i < 2147483648 by omega) (show cn i < 2147483648 by omega), Nat.le_refl, z_1]
      rw [s15_82, hx]
      exact hQ _ _ _
    | succ d ih =>
      intro t x l6 ht hx
      have hk1 : ¬ cn i ≤ t := by omega
      simp only [s15_22, s15_24, s15_26, s15_29, s15_32, s15_35, s15_36, hf_bd_v, hf_bd_n, hf_iv_i, hf_iv_l, hf_iv_a, hf_iv_n, hf_iv_2, z_lgl, z_lgg, z_lge, z_lgle, z_lgz, Option.getD_some, Option.isSome_some, ↓reduceIte, not_true_eq_false, not_false_eq_true, Option.toList_some, Option.toList_none, List.cons_append, List.nil_append, Nat.reduceAdd, Nat.add_assoc, ku_ne, ku_same, ne_eq, Nat.reduceEqDiff, reduceCtorEq, Nat.add_eq_left, Nat.left_eq_add, Nat.reduceEqDiff, q10, q_ne, true_or, or_true, pc_k hP, pc_r0 hP, pc_r1 hP, pc_r2 hP, hS.1, hct, z_ii (show cn i < 2147483648 by omega) (show t < 2147483648 by omega), hk1, z_1]
      refine inner2 i t x Q hi (by omega) (fun l6 => ?_) 4 0 x rfl (fun _ => rfl) (fun _ => ⟨rfl, rfl⟩)
      exact ih (t + 1) _ l6 (by omega) (by rw [hx]; rfl)
  have loop : ∀ (d t : Nat) (x : Int64) (l4 l5 l6 : Option Value), t + d = n → x = atB cn nx (fun i => J (34 + 17 * i + 16)) t → hf_rn 15 4 [some (.ref 13), some (.long x), none, some (.int (nI t)), l4, l5, l6] [] g I J = some (.inl (some (.long (atB cn nx (fun i => J (34 + 17 * i + 16)) n))), g, I, J) := by
    intro d
    induction d with
    | zero =>
      intro t x l4 l5 l6 ht hx
      have e : t = n := by omega
      subst e
      simp only [s15_4, s15_5, s15_6, s15_9, s15_12, s15_13, s15_14, s15_17, s15_19, s15_20, s15_85, s15_86, hf_bd_v, hf_bd_n, hf_iv_i, hf_iv_l, hf_iv_a, hf_iv_n, hf_iv_2, z_lgl, z_lgg, z_lge, z_lgle, z_lgz, Option.getD_some, Option.isSome_some, ↓reduceIte, not_true_eq_false, not_false_eq_true, Option.toList_some, Option.toList_none, List.cons_append, List.nil_append, Nat.reduceAdd, Nat.add_assoc, ku_ne, ku_same, ne_eq, Nat.reduceEqDiff, reduceCtorEq, Nat.add_eq_left, Nat.left_eq_add, Nat.reduceEqDiff, q10, q_ne, true_or, or_true, al_k hA, al_r0 hA, al_r1 hA, al_r2 hA, al_k14 hA, h.2.2.1, z_ii (show t < 2147483648 by omega) (show t < 2147483648 by omega), Nat.le_refl, hx]
    | succ d ih =>
      intro t x l4 l5 l6 ht hx
      have hk1 : ¬ n ≤ t := by omega
      have hat := alb_at (e := (t : Int)) h (by omega) (by omega)
      rw [← nI_iZ] at hat
      simp only [s15_4, s15_5, s15_6, s15_9, s15_12, s15_13, s15_14, s15_17, s15_19, s15_20, hf_bd_v, hf_bd_n, hf_iv_i, hf_iv_l, hf_iv_a, hf_iv_n, hf_iv_2, z_lgl, z_lgg, z_lge, z_lgle, z_lgz, Option.getD_some, Option.isSome_some, ↓reduceIte, not_true_eq_false, not_false_eq_true, Option.toList_some, Option.toList_none, List.cons_append, List.nil_append, Nat.reduceAdd, Nat.add_assoc, ku_ne, ku_same, ne_eq, Nat.reduceEqDiff, reduceCtorEq, Nat.add_eq_left, Nat.left_eq_add, Nat.reduceEqDiff, q10, q_ne, true_or, or_true, al_k hA, al_r0 hA, al_r1 hA, al_r2 hA, al_k14 hA, hA.1, h.2.2.1, z_ii (show n < 2147483648 by omega) (show t < 2147483648 by omega), hk1, z_1, hat]
      exact inner t x _ (by omega) (fun l4 l5 l6 => ih (t + 1) _ l4 l5 l6 (by omega) (by rw [hx]; rfl)) (cn t) 0 _ _ (by omega) rfl
  simp only [s15_0, s15_1, s15_2, s15_3, hf_bd_v, hf_bd_n, hf_iv_i, hf_iv_l, hf_iv_a, hf_iv_n, hf_iv_2, z_lgl, z_lgg, z_lge, z_lgle, z_lgz, Option.getD_some, Option.isSome_some, ↓reduceIte, not_true_eq_false, not_false_eq_true, Option.toList_some, Option.toList_none, List.cons_append, List.nil_append, Nat.reduceAdd, Nat.add_assoc, ku_ne, ku_same, ne_eq, Nat.reduceEqDiff, reduceCtorEq, Nat.add_eq_left, Nat.left_eq_add, Nat.reduceEqDiff, q10, q_ne, true_or, or_true]
  exact loop n 0 _ _ _ _ (by omega) rfl
end
