/-! ALBUM: what is asked of the trees -/
def ctZ (n : Nat) (cn : Nat → Nat) (e : Int) : Nat := if 0 ≤ e ∧ e < n then cn e.toNat else 0
section
variable {g : hf_G} {I : hf_I} {J : hf_J} {P G c k m n q a b s : Nat} {u v w : Int64} {j : Int32} {cn : Nat → Nat} {Hs : Nat → Nat → Int64} {nx : Nat → Nat → Option (Nat × Nat)} {e : Int}
theorem pZ_in (h1 : 0 ≤ e) (h2 : e < n) : pZ n e = 34 + 17 * e.toNat := by rw [pZ, if_pos ⟨h1, h2⟩]
theorem al_pz (h : Al g) (hn : n ≤ 12) : Pc g (pZ n e) := by
  by_cases c : 0 ≤ e ∧ e < n
  · rw [pZ, if_pos c]; exact al_pc h _ (by omega)
  · rw [pZ, if_neg c]; exact al_pc15 h
theorem alb_ct (h : Alb g I J n cn Hs nx) : I (pZ n e + 1) 2 = nI (ctZ n cn e) := by
  obtain ⟨h1, h2, h3, h4, h5, h6⟩ := h
  by_cases c : 0 ≤ e ∧ e < n
  · rw [pZ, if_pos c, ctZ, if_pos c]; exact (h5 _ (by omega)).2
  · rw [pZ, if_neg c, ctZ, if_neg c]; exact h4
theorem alb_64 (h : Alb g I J n cn Hs nx) : ctZ n cn e ≤ 64 := by
  obtain ⟨h1, h2, h3, h4, h5, h6⟩ := h
  rw [ctZ]
  split
  · exact (h5 _ (by omega)).1
  · exact Nat.zero_le _
theorem ctZ_lt (h : k < ctZ n cn e) : 0 ≤ e ∧ e < n ∧ k < cn e.toNat := by
  rw [ctZ] at h
  split at h
  · rename_i c; exact ⟨c.1, c.2, h⟩
  · omega
theorem cdI_l {x : Option (Nat × Nat)} (h : ∀ j h, x = some (j, h) → j < 12 ∧ h < 64) : (cdL x).toInt32 = cdI x := by
  match x, h with
  | none, _ => rfl
  | some (j, h1), h =>
    obtain ⟨h2, h3⟩ := h j h1 rfl
    rw [cdL, cdI, lZ_i, nI_iZ]
    rfl
theorem cdI_eq {x : Option (Nat × Nat)} {i k : Nat} (h : ∀ j h, x = some (j, h) → j < 12 ∧ h < 64) (hi : i < 12) (hk : k < 64) : (cdI x = nI (100 * i + k)) = (x = some (i, k)) := by
  match x, h with
  | none, _ =>
    rw [cdI, show (-1 : Int32) = iZ (-1) from rfl, nI_iZ, iZ_eq (iRs (by omega) (by omega)) (iRs (by omega) (by omega))]
    apply propext
    constructor
    · intro h; omega
    · intro h; cases h
  | some (j, h1), h =>
    obtain ⟨h2, h3⟩ := h j h1 rfl
    rw [cdI, z_ie (by omega) (by omega)]
    apply propext
    constructor
    · intro h
      have e1 : j = i := by omega
      have e2 : h1 = k := by omega
      rw [e1, e2]
    · intro h; cases h; rfl
theorem alb_nx (h : Alb g I J n cn Hs nx) {i k : Nat} (hi : i < n) (hk : k < cn i) : ∀ j h, nx i k = some (j, h) → j < 12 ∧ h < 64 := by
  intro j x hx
  obtain ⟨h1, h2, h3, h4, h5, h6, h7, h8⟩ := h
  obtain ⟨p1, p2, p3⟩ := h8 i k j x hi hk hx
  have := (h5 j p2).1
  omega
theorem alb_go (h : Alb g I J n cn Hs nx) (hk : k < ctZ n cn e) : hf_rn 43 0 [some (.ref (pZ n e)), some (.int (nI k))] [] g I J = some (.inl (some (.int (cdI (nx e.toNat k)))), g, I, J) := by
  obtain ⟨p1, p2, p3⟩ := ctZ_lt hk
  have h64 := @alb_64 g I J n cn Hs nx e h
  have hx := alb_nx h (show e.toNat < n by omega) p3
  rw [c_goesOnIn (al_pz h.1 h.2.1) (by omega), ← cdI_l hx, pZ_in p1 p2, h.2.2.2.2.2.2.1 _ _ (by omega) p3]
theorem alb_me (h : Alb g I J n cn Hs nx) (hk : k < ctZ n cn e) : hf_rn 80 0 [some (.ref (pZ n e + 1)), some (.int (nI k))] [] g I J = some (.inl (some (.long (Hs e.toNat k))), g, I, J) := by
  obtain ⟨p1, p2, p3⟩ := ctZ_lt hk
  have h64 := @alb_64 g I J n cn Hs nx e h
  rw [c_members (pc_sc1 (al_pz h.1 h.2.1)) (by omega), show pZ n e + 1 + 11 = 34 + 17 * e.toNat + 12 by rw [pZ_in p1 p2], h.2.2.2.2.2.1 _ (by omega)]
theorem alb_at (h : Alb g I J n cn Hs nx) (h1 : -100 ≤ e) (h2 : e ≤ 100) : hf_rn 3 0 [some (.ref 13), some (.int (iZ e)), none] [] g I J = some (.inl (some (.ref (pZ n e))), g, I, J) := c_at h.1 h.2.2.1 h.2.1 h1 h2
/-- what comes from one earlier picture -/
def mfZ (n : Nat) (cn : Nat → Nat) (Hs : Nat → Nat → Int64) (nx : Nat → Nat → Option (Nat × Nat)) (i k : Nat) (e : Int) (p : Int32 × Int32) (t : Nat) : Int32 × Int32 :=
  it t p fun o p => if nx e.toNat o = some (i, k) ∧ p.2 < popI (Hs e.toNat o &&& Hs i k) then (nI (100 * e.toNat + o), popI (Hs e.toNat o &&& Hs i k)) else p
def frA (n : Nat) (cn : Nat → Nat) (Hs : Nat → Nat → Int64) (nx : Nat → Nat → Option (Nat × Nat)) (i k : Nat) : Int32 :=
  (mfZ n cn Hs nx i k ((i : Int) - 2) (mfZ n cn Hs nx i k ((i : Int) - 1) (-1, 0) (ctZ n cn ((i : Int) - 1))) (ctZ n cn ((i : Int) - 2))).1
theorem c_from {i : Nat} (h : Alb g I J n cn Hs nx) (hi : i < n) (hk : k < cn i) : hf_rn 7 0 [some (.ref 13), some (.int (nI i)), some (.int (nI k)), none, none, none, none, none, none, none, none] [] g I J = some (.inl (some (.int (frA n cn Hs nx i k))), g, I, J) := by
  have hn := h.2.1
  have hA := h.1
  have hci := h.2.2.2.2.1 i hi
  have hki : k < ctZ n cn (i : Int) := by rw [ctZ, if_pos ⟨by omega, by omega⟩]; exact hk
  have hat := fun (e : Int) => @alb_at g I J n cn Hs nx e h
  have inner : ∀ (e : Int) (p0 : Int32 × Int32) (R : Option hf_R), -100 ≤ e → e ≤ 100 → (∀ l9 l10, hf_rn 7 24 [some (.ref 13), some (.int (nI i)), some (.int (nI k)), some (.long (Hs i k)), none, some (.int (mfZ n cn Hs nx i k e p0 (ctZ n cn e)).1), some (.int (mfZ n cn Hs nx i k e p0 (ctZ n cn e)).2), some (.int (iZ (e - 1))), some (.ref (pZ n e)), l9, l10] [] g I J = R) →
      ∀ (d t : Nat) (x y : Int32) (l10 : Option Value), t + d = ctZ n cn e → (x, y) = mfZ n cn Hs nx i k e p0 t → hf_rn 7 43 [some (.ref 13), some (.int (nI i)), some (.int (nI k)), some (.long (Hs i k)), none, some (.int x), some (.int y), some (.int (iZ e)), some (.ref (pZ n e)), some (.int (nI t)), l10] [] g I J = R := by
    intro e p0 R he1 he2 hR
    have hP := @al_pz g n e hA hn
    have hS := pc_sc1 hP
    have hct := @alb_ct g I J n cn Hs nx e h
    have h64 := @alb_64 g I J n cn Hs nx e h
    intro d
    induction d with
    | zero =>
      intro t x y l10 ht hx
      have e1 : t = ctZ n cn e := by omega
      rw [e1]
      simp only [s7_43, s7_45, s7_47, s7_50, s7_53, s7_56, s7_58, s7_61, s7_63, s7_66, s7_67, s7_68, s7_71, s7_73, s7_75, s7_77, s7_80, s7_81, s7_82, s7_85, s7_88, s7_90, s7_92, s7_95, s7_97, s7_99, s7_101, s7_103, s7_106, s7_108, s7_111, s7_114, hf_bd_v, hf_bd_n, hf_iv_i, hf_iv_l, hf_iv_a, hf_iv_n, hf_iv_2, z_lgl, z_lgg, z_lge, z_lgle, z_lgz, Option.getD_some, Option.isSome_some, ↓reduceIte, not_true_eq_false, not_false_eq_true, Option.toList_some, Option.toList_none, List.cons_append, List.nil_append, Nat.reduceAdd, Nat.add_assoc, ku_ne, ku_same, ne_eq, Nat.reduceEqDiff, reduceCtorEq, Nat.add_eq_left, Nat.left_eq_add, Nat.reduceEqDiff, q10, q_ne, true_or, or_true, pc_k hP, pc_r0 hP, pc_r1 hP, pc_r2 hP, hS.1, hct, z_ii (show ctZ n cn e < 2147483648 by omega) (show ctZ n cn e < 2147483648 by omega), Nat.le_refl, iZ_d]
      rw [s7_117]
      have := hR (some (.int (nI t))) l10
      rw [← e1, ← hx] at this
      rw [← e1]
      exact this
    | succ d ih =>
      intro t x y l10 ht hx
      have hk1 : ¬ ctZ n cn e ≤ t := by omega
      have htl : t < ctZ n cn e := by omega
      obtain ⟨q1, q2, q3⟩ := ctZ_lt htl
      have hme := alb_me h htl
      have hgo := alb_go h htl
      have hxx := alb_nx h (show e.toNat < n by omega) q3
      have heq := cdI_eq (i := i) (k := k) hxx (by omega) (by omega)
      have hen : iZ e = nI e.toNat := by rw [nI_iZ]; congr 1; omega
      have hs : mfZ n cn Hs nx i k e p0 (t + 1) = if nx e.toNat t = some (i, k) ∧ y < popI (Hs e.toNat t &&& Hs i k) then (nI (100 * e.toNat + t), popI (Hs e.toNat t &&& Hs i k)) else (x, y) := by rw [mfZ, it_s, ← mfZ, ← hx]
      have hz := z_ii (show ctZ n cn e < 2147483648 by omega) (show t < 2147483648 by omega)
      by_cases c1 : nx e.toNat t = some (i, k)
      · have hq : (cdI (nx e.toNat t) = nI (100 * i + k)) = True := by rw [heq]; exact eq_true c1
        by_cases c2 : y < popI (Hs e.toNat t &&& Hs i k)
        · have c3 : ¬ popI (Hs e.toNat t &&& Hs i k) ≤ y := by rw [Int32.le_iff_toInt_le]; rw [Int32.lt_iff_toInt_lt] at c2; omega
          rw [hen]
          rw [hen] at ih
          simp only [s7_43, s7_45, s7_47, s7_50, s7_53, s7_56, s7_58, s7_61, s7_63, s7_66, s7_67, s7_68, s7_71, s7_73, s7_75, s7_77, s7_80, s7_81, s7_82, s7_85, s7_88, s7_90, s7_92, s7_95, s7_97, s7_99, s7_101, s7_103, s7_106, s7_108, hf_bd_v, hf_bd_n, hf_iv_i, hf_iv_l, hf_iv_a, hf_iv_n, hf_iv_2, z_lgl, z_lgg, z_lge, z_lgle, z_lgz, Option.getD_some, Option.isSome_some, ↓reduceIte, not_true_eq_false, not_false_eq_true, Option.toList_some, Option.toList_none, List.cons_append, List.nil_append, Nat.reduceAdd, Nat.add_assoc, ku_ne, ku_same, ne_eq, Nat.reduceEqDiff, reduceCtorEq, Nat.add_eq_left, Nat.left_eq_add, Nat.reduceEqDiff, q10, q_ne, true_or, or_true, pc_k hP, pc_r0 hP, pc_r1 hP, pc_r2 hP, hP.1, hS.1, hct, hz, hk1, z_1, hme, c_pop, hgo, c_codeOf, hq, c3]
          rw [s7_111]
          exact ih (t + 1) _ _ _ (by omega) (by rw [hs, if_pos ⟨c1, c2⟩])
        · have c3 : popI (Hs e.toNat t &&& Hs i k) ≤ y := by rw [Int32.le_iff_toInt_le]; rw [Int32.lt_iff_toInt_lt] at c2; omega
          simp only [s7_43, s7_45, s7_47, s7_50, s7_53, s7_56, s7_58, s7_61, s7_63, s7_66, s7_67, s7_68, s7_71, s7_73, s7_75, s7_77, s7_80, s7_81, s7_82, s7_85, s7_88, s7_90, s7_92, s7_95, s7_97, s7_99, s7_101, s7_103, s7_106, s7_108, hf_bd_v, hf_bd_n, hf_iv_i, hf_iv_l, hf_iv_a, hf_iv_n, hf_iv_2, z_lgl, z_lgg, z_lge, z_lgle, z_lgz, Option.getD_some, Option.isSome_some, ↓reduceIte, not_true_eq_false, not_false_eq_true, Option.toList_some, Option.toList_none, List.cons_append, List.nil_append, Nat.reduceAdd, Nat.add_assoc, ku_ne, ku_same, ne_eq, Nat.reduceEqDiff, reduceCtorEq, Nat.add_eq_left, Nat.left_eq_add, Nat.reduceEqDiff, q10, q_ne, true_or, or_true, pc_k hP, pc_r0 hP, pc_r1 hP, pc_r2 hP, hP.1, hS.1, hct, hz, hk1, z_1, hme, c_pop, hgo, c_codeOf, hq, c3]
          rw [s7_111]
          exact ih (t + 1) _ _ _ (by omega) (by rw [hs, if_neg (fun c => c2 c.2)])
      · have hq : (cdI (nx e.toNat t) = nI (100 * i + k)) = False := by rw [heq]; exact eq_false c1
        simp only [s7_43, s7_45, s7_47, s7_50, s7_53, s7_56, s7_58, s7_61, s7_63, s7_66, s7_67, s7_68, s7_71, s7_73, s7_75, s7_77, s7_80, s7_81, s7_82, s7_85, s7_88, s7_90, s7_92, s7_95, s7_97, s7_99, s7_101, s7_103, s7_106, s7_108, hf_bd_v, hf_bd_n, hf_iv_i, hf_iv_l, hf_iv_a, hf_iv_n, hf_iv_2, z_lgl, z_lgg, z_lge, z_lgle, z_lgz, Option.getD_some, Option.isSome_some, ↓reduceIte, not_true_eq_false, not_false_eq_true, Option.toList_some, Option.toList_none, List.cons_append, List.nil_append, Nat.reduceAdd, Nat.add_assoc, ku_ne, ku_same, ne_eq, Nat.reduceEqDiff, reduceCtorEq, Nat.add_eq_left, Nat.left_eq_add, Nat.reduceEqDiff, q10, q_ne, true_or, or_true, pc_k hP, pc_r0 hP, pc_r1 hP, pc_r2 hP, hP.1, hS.1, hct, hz, hk1, z_1, hme, c_pop, hgo, c_codeOf, hq]
        rw [s7_111]
        exact ih (t + 1) _ _ _ (by omega) (by rw [hs, if_neg (fun c => c1 c.1)])
  have le1 : ∀ a : Int, -100 ≤ a → a ≤ 100 → (iZ a < iZ ((i : Int) - 2)) = (a < (i : Int) - 2) := fun a h1 h2 => iZ_lt (iRs (by omega) (by omega)) (iRs (by omega) (by omega))
  have s1 := le1 ((i : Int) - 1) (by omega) (by omega)
  have s2 := le1 ((i : Int) - 1 - 1) (by omega) (by omega)
  have s3 := le1 ((i : Int) - 1 - 1 - 1) (by omega) (by omega)
  have t1 : ¬ ((i : Int) - 1 < (i : Int) - 2) := by omega
  have t2 : ¬ ((i : Int) - 1 - 1 < (i : Int) - 2) := by omega
  have t3 : ((i : Int) - 1 - 1 - 1 < (i : Int) - 2) := by omega
  have hat0 := hat (i : Int) (by omega) (by omega)
  have hat1 := hat ((i : Int) - 1) (by omega) (by omega)
  have hat2 := hat ((i : Int) - 1 - 1) (by omega) (by omega)
  rw [← nI_iZ] at hat0
  have hme := alb_me h hki
  rw [show ((i : Int)).toNat = i from rfl] at hme
  have hP := @al_pz g n (i : Int) hA hn
  simp only [s7_0, s7_1, s7_2, s7_5, s7_8, s7_9, s7_12, s7_13, s7_14, s7_16, s7_17, s7_19, s7_20, s7_21, s7_22, hf_bd_v, hf_bd_n, hf_iv_i, hf_iv_l, hf_iv_a, hf_iv_n, hf_iv_2, z_lgl, z_lgg, z_lge, z_lgle, z_lgz, Option.getD_some, Option.isSome_some, ↓reduceIte, not_true_eq_false, not_false_eq_true, Option.toList_some, Option.toList_none, List.cons_append, List.nil_append, Nat.reduceAdd, Nat.add_assoc, ku_ne, ku_same, ne_eq, Nat.reduceEqDiff, reduceCtorEq, Nat.add_eq_left, Nat.left_eq_add, Nat.reduceEqDiff, q10, q_ne, true_or, or_true, hA.1, hat0, pc_k hP, pc_r0 hP, pc_r1 hP, pc_r2 hP, (pc_sc1 hP).1, hme, nI_m1]
  simp only [s7_24, s7_26, s7_27, s7_28, s7_29, s7_32, s7_33, s7_35, s7_38, s7_40, s7_41, hf_bd_v, hf_bd_n, hf_iv_i, hf_iv_l, hf_iv_a, hf_iv_n, hf_iv_2, z_lgl, z_lgg, z_lge, z_lgle, z_lgz, Option.getD_some, Option.isSome_some, ↓reduceIte, not_true_eq_false, not_false_eq_true, Option.toList_some, Option.toList_none, List.cons_append, List.nil_append, Nat.reduceAdd, Nat.add_assoc, ku_ne, ku_same, ne_eq, Nat.reduceEqDiff, reduceCtorEq, Nat.add_eq_left, Nat.left_eq_add, Nat.reduceEqDiff, q10, q_ne, true_or, or_true, hA.1, nI_m2, s1, t1, hat1]
  refine inner ((i : Int) - 1) (-1, 0) _ (by omega) (by omega) (fun l9 l10 => ?_) _ 0 _ _ _ (Nat.zero_add _) rfl
  simp only [s7_24, s7_26, s7_27, s7_28, s7_29, s7_32, s7_33, s7_35, s7_38, s7_40, s7_41, hf_bd_v, hf_bd_n, hf_iv_i, hf_iv_l, hf_iv_a, hf_iv_n, hf_iv_2, z_lgl, z_lgg, z_lge, z_lgle, z_lgz, Option.getD_some, Option.isSome_some, ↓reduceIte, not_true_eq_false, not_false_eq_true, Option.toList_some, Option.toList_none, List.cons_append, List.nil_append, Nat.reduceAdd, Nat.add_assoc, ku_ne, ku_same, ne_eq, Nat.reduceEqDiff, reduceCtorEq, Nat.add_eq_left, Nat.left_eq_add, Nat.reduceEqDiff, q10, q_ne, true_or, or_true, hA.1, nI_m2, s2, t2, hat2]
  refine inner ((i : Int) - 1 - 1) (mfZ n cn Hs nx i k ((i : Int) - 1) (-1, 0) (ctZ n cn ((i : Int) - 1))) _ (by omega) (by omega) (fun l9 l10 => ?_) _ 0 _ _ _ (Nat.zero_add _) rfl
  simp only [s7_24, s7_26, s7_27, s7_28, s7_29, s7_32, s7_33, s7_35, s7_38, s7_40, s7_41, s7_120, s7_122, hf_bd_v, hf_bd_n, hf_iv_i, hf_iv_l, hf_iv_a, hf_iv_n, hf_iv_2, z_lgl, z_lgg, z_lge, z_lgle, z_lgz, Option.getD_some, Option.isSome_some, ↓reduceIte, not_true_eq_false, not_false_eq_true, Option.toList_some, Option.toList_none, List.cons_append, List.nil_append, Nat.reduceAdd, Nat.add_assoc, ku_ne, ku_same, ne_eq, Nat.reduceEqDiff, reduceCtorEq, Nat.add_eq_left, Nat.left_eq_add, Nat.reduceEqDiff, q10, q_ne, true_or, or_true, hA.1, nI_m2, s3, t3]
  have e3 : (i : Int) - 1 - 1 = (i : Int) - 2 := by omega
  rw [e3]
  rfl

/-- how many of one earlier picture go on in it -/
def hmZ (nx : Nat → Nat → Option (Nat × Nat)) (i k : Nat) (e : Int) (p : Int32) (t : Nat) : Int32 := it t p fun o p => if nx e.toNat o = some (i, k) then p + 1 else p
def hmA (n : Nat) (cn : Nat → Nat) (nx : Nat → Nat → Option (Nat × Nat)) (i k : Nat) : Int32 := hmZ nx i k ((i : Int) - 2) (hmZ nx i k ((i : Int) - 1) 0 (ctZ n cn ((i : Int) - 1))) (ctZ n cn ((i : Int) - 2))
theorem c_howGo {i : Nat} (h : Alb g I J n cn Hs nx) (hi : i < n) (hk : k < cn i) : hf_rn 9 0 [some (.ref 13), some (.int (nI i)), some (.int (nI k)), none, none, none, none] [] g I J = some (.inl (some (.int (hmA n cn nx i k))), g, I, J) := by
  have hn := h.2.1
  have hA := h.1
  have hci := h.2.2.2.2.1 i hi
  have hat := fun (e : Int) => @alb_at g I J n cn Hs nx e h
  have inner : ∀ (e : Int) (p0 : Int32) (R : Option hf_R), -100 ≤ e → e ≤ 100 → (∀ l6, hf_rn 9 7 [some (.ref 13), some (.int (nI i)), some (.int (nI k)), some (.int (hmZ nx i k e p0 (ctZ n cn e))), some (.int (iZ (e - 1))), some (.ref (pZ n e)), l6] [] g I J = R) →
      ∀ (d t : Nat) (x : Int32), t + d = ctZ n cn e → x = hmZ nx i k e p0 t → hf_rn 9 26 [some (.ref 13), some (.int (nI i)), some (.int (nI k)), some (.int x), some (.int (iZ e)), some (.ref (pZ n e)), some (.int (nI t))] [] g I J = R := by
    intro e p0 R he1 he2 hR
    have hP := @al_pz g n e hA hn
    have hS := pc_sc1 hP
    have hct := @alb_ct g I J n cn Hs nx e h
    have h64 := @alb_64 g I J n cn Hs nx e h
    intro d
    induction d with
    | zero =>
      intro t x ht hx
      have e1 : t = ctZ n cn e := by omega
      rw [e1]
      simp only [s9_26, s9_28, s9_30, s9_33, s9_36, s9_39, s9_41, s9_43, s9_46, s9_47, s9_48, s9_51, s9_54, s9_57, s9_60, s9_63, hf_bd_v, hf_bd_n, hf_iv_i, hf_iv_l, hf_iv_a, hf_iv_n, hf_iv_2, z_lgl, z_lgg, z_lge, z_lgle, z_lgz, Option.getD_some, Option.isSome_some, ↓reduceIte, not_true_eq_false, not_false_eq_true, Option.toList_some, Option.toList_none, List.cons_append, List.nil_append, Nat.reduceAdd, Nat.add_assoc, ku_ne, ku_same, ne_eq, Nat.reduceEqDiff, reduceCtorEq, Nat.add_eq_left, Nat.left_eq_add, Nat.reduceEqDiff, q10, q_ne, true_or, or_true, pc_k hP, pc_r0 hP, pc_r1 hP, pc_r2 hP, hS.1, hct, z_ii (show ctZ n cn e < 2147483648 by omega) (show ctZ n cn e < 2147483648 by omega), Nat.le_refl, iZ_d]
      rw [s9_66]
      have := hR (some (.int (nI t)))
      rw [← e1, ← hx] at this
      rw [← e1]
      exact this
    | succ d ih =>
      intro t x ht hx
      have hk1 : ¬ ctZ n cn e ≤ t := by omega
      have htl : t < ctZ n cn e := by omega
      obtain ⟨q1, q2, q3⟩ := ctZ_lt htl
      have hgo := alb_go h htl
      have hxx := alb_nx h (show e.toNat < n by omega) q3
      have heq := cdI_eq (i := i) (k := k) hxx (by omega) (by omega)
      have hz := z_ii (show ctZ n cn e < 2147483648 by omega) (show t < 2147483648 by omega)
      by_cases c1 : nx e.toNat t = some (i, k)
      · have hq : (cdI (nx e.toNat t) = nI (100 * i + k)) = True := by rw [heq]; exact eq_true c1
        simp only [s9_26, s9_28, s9_30, s9_33, s9_36, s9_39, s9_41, s9_43, s9_46, s9_47, s9_48, s9_51, s9_54, s9_57, hf_bd_v, hf_bd_n, hf_iv_i, hf_iv_l, hf_iv_a, hf_iv_n, hf_iv_2, z_lgl, z_lgg, z_lge, z_lgle, z_lgz, Option.getD_some, Option.isSome_some, ↓reduceIte, not_true_eq_false, not_false_eq_true, Option.toList_some, Option.toList_none, List.cons_append, List.nil_append, Nat.reduceAdd, Nat.add_assoc, ku_ne, ku_same, ne_eq, Nat.reduceEqDiff, reduceCtorEq, Nat.add_eq_left, Nat.left_eq_add, Nat.reduceEqDiff, q10, q_ne, true_or, or_true, pc_k hP, pc_r0 hP, pc_r1 hP, pc_r2 hP, hP.1, hS.1, hct, hz, hk1, z_1, hgo, c_codeOf, hq]
        rw [s9_60]
        exact ih (t + 1) _ (by omega) (by rw [hmZ, it_s, ← hmZ, ← hx, if_pos c1])
      · have hq : (cdI (nx e.toNat t) = nI (100 * i + k)) = False := by rw [heq]; exact eq_false c1
        simp only [s9_26, s9_28, s9_30, s9_33, s9_36, s9_39, s9_41, s9_43, s9_46, s9_47, s9_48, s9_51, s9_54, s9_57, hf_bd_v, hf_bd_n, hf_iv_i, hf_iv_l, hf_iv_a, hf_iv_n, hf_iv_2, z_lgl, z_lgg, z_lge, z_lgle, z_lgz, Option.getD_some, Option.isSome_some, ↓reduceIte, not_true_eq_false, not_false_eq_true, Option.toList_some, Option.toList_none, List.cons_append, List.nil_append, Nat.reduceAdd, Nat.add_assoc, ku_ne, ku_same, ne_eq, Nat.reduceEqDiff, reduceCtorEq, Nat.add_eq_left, Nat.left_eq_add, Nat.reduceEqDiff, q10, q_ne, true_or, or_true, pc_k hP, pc_r0 hP, pc_r1 hP, pc_r2 hP, hP.1, hS.1, hct, hz, hk1, z_1, hgo, c_codeOf, hq]
        rw [s9_60]
        exact ih (t + 1) _ (by omega) (by rw [hmZ, it_s, ← hmZ, ← hx, if_neg c1])
  have le1 : ∀ a : Int, -100 ≤ a → a ≤ 100 → (iZ a < iZ ((i : Int) - 2)) = (a < (i : Int) - 2) := fun a h1 h2 => iZ_lt (iRs (by omega) (by omega)) (iRs (by omega) (by omega))
  have s1 := le1 ((i : Int) - 1) (by omega) (by omega)
  have s2 := le1 ((i : Int) - 1 - 1) (by omega) (by omega)
  have s3 := le1 ((i : Int) - 1 - 1 - 1) (by omega) (by omega)
  have t1 : ¬ ((i : Int) - 1 < (i : Int) - 2) := by omega
  have t2 : ¬ ((i : Int) - 1 - 1 < (i : Int) - 2) := by omega
  have t3 : ((i : Int) - 1 - 1 - 1 < (i : Int) - 2) := by omega
  have hat1 := hat ((i : Int) - 1) (by omega) (by omega)
  have hat2 := hat ((i : Int) - 1 - 1) (by omega) (by omega)
  simp only [s9_0, s9_1, s9_2, s9_3, s9_4, s9_5, hf_bd_v, hf_bd_n, hf_iv_i, hf_iv_l, hf_iv_a, hf_iv_n, hf_iv_2, z_lgl, z_lgg, z_lge, z_lgle, z_lgz, Option.getD_some, Option.isSome_some, ↓reduceIte, not_true_eq_false, not_false_eq_true, Option.toList_some, Option.toList_none, List.cons_append, List.nil_append, Nat.reduceAdd, Nat.add_assoc, ku_ne, ku_same, ne_eq, Nat.reduceEqDiff, reduceCtorEq, Nat.add_eq_left, Nat.left_eq_add, Nat.reduceEqDiff, q10, q_ne, true_or, or_true, hA.1, nI_m1]
  simp only [s9_7, s9_9, s9_10, s9_11, s9_12, s9_15, s9_16, s9_18, s9_21, s9_23, s9_24, hf_bd_v, hf_bd_n, hf_iv_i, hf_iv_l, hf_iv_a, hf_iv_n, hf_iv_2, z_lgl, z_lgg, z_lge, z_lgle, z_lgz, Option.getD_some, Option.isSome_some, ↓reduceIte, not_true_eq_false, not_false_eq_true, Option.toList_some, Option.toList_none, List.cons_append, List.nil_append, Nat.reduceAdd, Nat.add_assoc, ku_ne, ku_same, ne_eq, Nat.reduceEqDiff, reduceCtorEq, Nat.add_eq_left, Nat.left_eq_add, Nat.reduceEqDiff, q10, q_ne, true_or, or_true, hA.1, nI_m2, s1, t1, hat1]
  refine inner ((i : Int) - 1) 0 _ (by omega) (by omega) (fun l9 => ?_) _ 0 _ (Nat.zero_add _) rfl
  simp only [s9_7, s9_9, s9_10, s9_11, s9_12, s9_15, s9_16, s9_18, s9_21, s9_23, s9_24, hf_bd_v, hf_bd_n, hf_iv_i, hf_iv_l, hf_iv_a, hf_iv_n, hf_iv_2, z_lgl, z_lgg, z_lge, z_lgle, z_lgz, Option.getD_some, Option.isSome_some, ↓reduceIte, not_true_eq_false, not_false_eq_true, Option.toList_some, Option.toList_none, List.cons_append, List.nil_append, Nat.reduceAdd, Nat.add_assoc, ku_ne, ku_same, ne_eq, Nat.reduceEqDiff, reduceCtorEq, Nat.add_eq_left, Nat.left_eq_add, Nat.reduceEqDiff, q10, q_ne, true_or, or_true, hA.1, nI_m2, s2, t2, hat2]
  refine inner ((i : Int) - 1 - 1) (hmZ nx i k ((i : Int) - 1) 0 (ctZ n cn ((i : Int) - 1))) _ (by omega) (by omega) (fun l9 => ?_) _ 0 _ (Nat.zero_add _) rfl
  simp only [s9_7, s9_9, s9_10, s9_11, s9_12, s9_15, s9_16, s9_18, s9_21, s9_23, s9_24, s9_69, s9_70, hf_bd_v, hf_bd_n, hf_iv_i, hf_iv_l, hf_iv_a, hf_iv_n, hf_iv_2, z_lgl, z_lgg, z_lge, z_lgle, z_lgz, Option.getD_some, Option.isSome_some, ↓reduceIte, not_true_eq_false, not_false_eq_true, Option.toList_some, Option.toList_none, List.cons_append, List.nil_append, Nat.reduceAdd, Nat.add_assoc, ku_ne, ku_same, ne_eq, Nat.reduceEqDiff, reduceCtorEq, Nat.add_eq_left, Nat.left_eq_add, Nat.reduceEqDiff, q10, q_ne, true_or, or_true, hA.1, nI_m2, s3, t3]
  have e3 : (i : Int) - 1 - 1 = (i : Int) - 2 := by omega
  rw [e3]
  rfl
end
