/-! THE FACE: pictures are kept, asked of -/
section
variable {g : hf_G} {I I2 : hf_I} {J J2 : hf_J} {S a b c d k m n s p q P : Nat} {u v w q64 : Int64} {i j x y : Int32} {cn : Nat → Nat} {Hs : Nat → Nat → Int64} {nx : Nat → Nat → Option (Nat × Nat)}
theorem c_needKept (h : Hx g) (hB : Alb g I J P cn Hs nx) (hp : p < P) (hk : k < cn p) : hf_rn 141 0 [some (.ref 0), some (.int (nI p)), some (.int (nI k))] [] g I J = some (.inl none, g, I, J) := by
  have hA := hB.1
  have hP := hB.2.1
  have hn := hB.2.2.1
  obtain ⟨h64, hct⟩ := hB.2.2.2.2.1 p hp
  have hh := c_hasI (I := I) (J := J) (i := nI p) hA
  rw [hn, if_pos ⟨nI_pos' (by omega), nI_lt hp (by omega)⟩] at hh
  have hat := c_at (I := I) (J := J) (e := (p : Int)) hA hn hP (by omega) (by omega)
  rw [← nI_iZ, pZ_in (by omega) (by omega), show ((p : Int)).toNat = p from rfl] at hat
  obtain ⟨A, hAd⟩ : ∃ A, A = 34 + 17 * p := ⟨_, rfl⟩
  rw [← hAd] at hat hct
  have hPc : Pc g A := by rw [hAd]; exact al_pc hA p (by omega)
  have hS := pc_sc1 hPc
  have hc : 0 ≤ nI k ∧ nI k < I (A + 1) 2 := by rw [hct]; exact ⟨nI_pos' (by omega), nI_lt hk (by omega)⟩
  simp only [s141_0, s141_1, s141_4, s141_5, s141_8, s141_11, s141_22, s141_23, s141_26, s141_27, s141_30, s141_33, s141_34, s141_37, hf_bd_v, hf_bd_n, hf_iv_i, hf_iv_l, hf_iv_a, hf_iv_n, hf_iv_2, z_lgl, z_lgg, z_lge, z_lgle, z_lgz, Option.getD_some, Option.isSome_some, ↓reduceIte, not_true_eq_false, not_false_eq_true, Option.toList_some, Option.toList_none, List.cons_append, List.nil_append, Nat.reduceAdd, Nat.add_assoc, ku_ne, ku_same, ne_eq, Nat.reduceEqDiff, reduceCtorEq, Nat.add_eq_left, Nat.left_eq_add, Nat.reduceEqDiff, q10, q_ne, true_or, or_true, hx_k h, hx_r0 h, hx_r1 h, hx_r2 h, hx_r3 h, hx_r4 h, hx_r5 h, pc_k hPc, pc_r0 hPc, pc_r1 hPc, pc_r2 hPc, hA.1, hh, hat, c_needHalo hS, if_pos hc]
theorem c_needKeptX1 (h : Hx g) (hB : Alb g I J P cn Hs nx) (hp : ¬ (0 ≤ i ∧ i < nI P)) : hf_rn 141 0 [some (.ref 0), some (.int i), some (.int j)] [] g I J = some (.inr 3, hf_th g, I, J) := by
  have hA := hB.1
  have hn := hB.2.2.1
  have hh := c_hasI (I := I) (J := J) (i := i) hA
  rw [hn, if_neg hp] at hh
  simp only [s141_0, s141_1, s141_4, s141_5, s141_8, s141_11, s141_22, s141_23, s141_26, s141_27, s141_30, s141_33, s141_34, s141_37, hf_bd_v, hf_bd_n, hf_iv_i, hf_iv_l, hf_iv_a, hf_iv_n, hf_iv_2, z_lgl, z_lgg, z_lge, z_lgle, z_lgz, Option.getD_some, Option.isSome_some, ↓reduceIte, not_true_eq_false, not_false_eq_true, Option.toList_some, Option.toList_none, List.cons_append, List.nil_append, Nat.reduceAdd, Nat.add_assoc, ku_ne, ku_same, ne_eq, Nat.reduceEqDiff, reduceCtorEq, Nat.add_eq_left, Nat.left_eq_add, Nat.reduceEqDiff, q10, q_ne, true_or, or_true, hx_k h, hx_r0 h, hx_r1 h, hx_r2 h, hx_r3 h, hx_r4 h, hx_r5 h, hA.1, hh]
theorem c_needKeptX2 (h : Hx g) (hB : Alb g I J P cn Hs nx) (hp : p < P) (hk : ¬ (0 ≤ j ∧ j < nI (cn p))) : hf_rn 141 0 [some (.ref 0), some (.int (nI p)), some (.int j)] [] g I J = some (.inr 3, hf_th g, I, J) := by
  have hA := hB.1
  have hP := hB.2.1
  have hn := hB.2.2.1
  obtain ⟨h64, hct⟩ := hB.2.2.2.2.1 p hp
  have hh := c_hasI (I := I) (J := J) (i := nI p) hA
  rw [hn, if_pos ⟨nI_pos' (by omega), nI_lt hp (by omega)⟩] at hh
  have hat := c_at (I := I) (J := J) (e := (p : Int)) hA hn hP (by omega) (by omega)
  rw [← nI_iZ, pZ_in (by omega) (by omega), show ((p : Int)).toNat = p from rfl] at hat
  obtain ⟨A, hAd⟩ : ∃ A, A = 34 + 17 * p := ⟨_, rfl⟩
  rw [← hAd] at hat hct
  have hPc : Pc g A := by rw [hAd]; exact al_pc hA p (by omega)
  have hS := pc_sc1 hPc
  rw [← hct] at hk
  simp only [s141_0, s141_1, s141_4, s141_5, s141_8, s141_11, s141_22, s141_23, s141_26, s141_27, s141_30, s141_33, s141_34, s141_37, hf_bd_v, hf_bd_n, hf_iv_i, hf_iv_l, hf_iv_a, hf_iv_n, hf_iv_2, z_lgl, z_lgg, z_lge, z_lgle, z_lgz, Option.getD_some, Option.isSome_some, ↓reduceIte, not_true_eq_false, not_false_eq_true, Option.toList_some, Option.toList_none, List.cons_append, List.nil_append, Nat.reduceAdd, Nat.add_assoc, ku_ne, ku_same, ne_eq, Nat.reduceEqDiff, reduceCtorEq, Nat.add_eq_left, Nat.left_eq_add, Nat.reduceEqDiff, q10, q_ne, true_or, or_true, hx_k h, hx_r0 h, hx_r1 h, hx_r2 h, hx_r3 h, hx_r4 h, hx_r5 h, pc_k hPc, pc_r0 hPc, pc_r1 hPc, pc_r2 hPc, hA.1, hh, hat, c_needHalo hS, if_neg hk, hf_bdx hh_141]
/-- a kept halo is wanting -/
def NX (g : hf_G) (I : hf_I) (J : hf_J) (i j : Int32) : Prop := hf_rn 141 0 [some (.ref 0), some (.int i), some (.int j)] [] g I J = some (.inr 3, hf_th g, I, J)
theorem c_kept_cases (h : Hx g) (hB : Alb g I J P cn Hs nx) (i j : Int32) : (∃ p k, p < P ∧ k < cn p ∧ i = nI p ∧ j = nI k) ∨ (NX g I J i j ∧ ¬ ∃ p k, p < P ∧ k < cn p ∧ i = nI p ∧ j = nI k) := by
  have hP := hB.2.1
  rcases i_cases i P (by omega) with ⟨p, p1, rfl⟩ | h1
  · have h64 := (hB.2.2.2.2.1 p p1).1
    rcases i_cases j (cn p) (by omega) with ⟨k, k1, rfl⟩ | h2
    · exact Or.inl ⟨p, k, p1, k1, rfl, rfl⟩
    · refine Or.inr ⟨c_needKeptX2 h hB p1 h2, ?_⟩
      rintro ⟨p2, k, q1, q2, q3, q4⟩
      rw [z_ie (by omega) (by omega)] at q3
      subst q3
      apply h2
      rw [q4]
      exact ⟨nI_pos' (by omega), nI_lt q2 (by omega)⟩
  · refine Or.inr ⟨c_needKeptX1 h hB h1, ?_⟩
    rintro ⟨p2, k, q1, q2, q3, q4⟩
    apply h1
    rw [q3]
    exact ⟨nI_pos' (by omega), nI_lt q1 (by omega)⟩
theorem c_atP (hB : Alb g I J P cn Hs nx) (hp : p < P) : hf_rn 3 0 [some (.ref 13), some (.int (nI p)), none] [] g I J = some (.inl (some (.ref (34 + 17 * p))), g, I, J) := by
  have hat := c_at (I := I) (J := J) (e := (p : Int)) hB.1 hB.2.2.1 hB.2.1 (by omega) (by have := hB.2.1; omega)
  rw [← nI_iZ, pZ_in (by omega) (by omega), show ((p : Int)).toNat = p from rfl] at hat
  exact hat
theorem c_nextF (h : Hx g) (hB : Alb g I J P cn Hs nx) (hp : p < P) (hk : k < cn p) : hf_rn 123 0 [some (.ref 0), some (.int (nI p)), some (.int (nI k))] [] g I J = some (.inl (some (.int (cdI (nx p k)))), g, I, J) := by
  have hA := hB.1
  have hat := c_atP hB hp
  have hgo := alb_go (e := (p : Int)) (k := k) hB (by rw [ctZ, if_pos ⟨by omega, by omega⟩]; exact hk)
  rw [pZ_in (by omega) (by omega), show ((p : Int)).toNat = p from rfl] at hgo
  have hPc : Pc g (34 + 17 * p) := al_pc hA p (by have := hB.2.1; omega)
  simp only [s123_0, s123_1, s123_2, s123_3, s123_6, s123_7, s123_10, s123_11, s123_14, s123_15, s123_18, hf_bd_v, hf_bd_n, hf_iv_i, hf_iv_l, hf_iv_a, hf_iv_n, hf_iv_2, z_lgl, z_lgg, z_lge, z_lgle, z_lgz, Option.getD_some, Option.isSome_some, ↓reduceIte, not_true_eq_false, not_false_eq_true, Option.toList_some, Option.toList_none, List.cons_append, List.nil_append, Nat.reduceAdd, Nat.add_assoc, ku_ne, ku_same, ne_eq, Nat.reduceEqDiff, reduceCtorEq, Nat.add_eq_left, Nat.left_eq_add, Nat.reduceEqDiff, q10, q_ne, true_or, or_true, hx_k h, hx_r0 h, hx_r1 h, hx_r2 h, hx_r3 h, hx_r4 h, hx_r5 h, h.1, hA.1, c_needKept h hB hp hk, hat, hPc.1, hgo]
theorem c_fromF (h : Hx g) (hB : Alb g I J P cn Hs nx) (hp : p < P) (hk : k < cn p) : hf_rn 124 0 [some (.ref 0), some (.int (nI p)), some (.int (nI k))] [] g I J = some (.inl (some (.int (frA P cn Hs nx p k))), g, I, J) := by
  simp only [s124_0, s124_1, s124_2, s124_3, s124_6, s124_7, s124_10, s124_11, s124_12, s124_15, hf_bd_v, hf_bd_n, hf_iv_i, hf_iv_l, hf_iv_a, hf_iv_n, hf_iv_2, z_lgl, z_lgg, z_lge, z_lgle, z_lgz, Option.getD_some, Option.isSome_some, ↓reduceIte, not_true_eq_false, not_false_eq_true, Option.toList_some, Option.toList_none, List.cons_append, List.nil_append, Nat.reduceAdd, Nat.add_assoc, ku_ne, ku_same, ne_eq, Nat.reduceEqDiff, reduceCtorEq, Nat.add_eq_left, Nat.left_eq_add, Nat.reduceEqDiff, q10, q_ne, true_or, or_true, hx_k h, hx_r0 h, hx_r1 h, hx_r2 h, hx_r3 h, hx_r4 h, hx_r5 h, h.1, hB.1.1, c_needKept h hB hp hk, c_from hB hp hk]
theorem c_nextX (h : Hx g) (hn : NX g I J i j) : hf_rn 123 0 [some (.ref 0), some (.int i), some (.int j)] [] g I J = some (.inr 3, hf_th g, I, J) := by
  unfold NX at hn
  simp only [s123_0, s123_1, s123_2, s123_3, s123_6, s123_7, s123_10, s123_11, s123_14, s123_15, s123_18, hf_bd_v, hf_bd_n, hf_iv_i, hf_iv_l, hf_iv_a, hf_iv_n, hf_iv_2, z_lgl, z_lgg, z_lge, z_lgle, z_lgz, Option.getD_some, Option.isSome_some, ↓reduceIte, not_true_eq_false, not_false_eq_true, Option.toList_some, Option.toList_none, List.cons_append, List.nil_append, Nat.reduceAdd, Nat.add_assoc, ku_ne, ku_same, ne_eq, Nat.reduceEqDiff, reduceCtorEq, Nat.add_eq_left, Nat.left_eq_add, Nat.reduceEqDiff, q10, q_ne, true_or, or_true, h.1, hn, hf_bdx hh_123]
theorem c_fromX (h : Hx g) (hn : NX g I J i j) : hf_rn 124 0 [some (.ref 0), some (.int i), some (.int j)] [] g I J = some (.inr 3, hf_th g, I, J) := by
  unfold NX at hn
  simp only [s124_0, s124_1, s124_2, s124_3, s124_6, s124_7, s124_10, s124_11, s124_12, s124_15, hf_bd_v, hf_bd_n, hf_iv_i, hf_iv_l, hf_iv_a, hf_iv_n, hf_iv_2, z_lgl, z_lgg, z_lge, z_lgle, z_lgz, Option.getD_some, Option.isSome_some, ↓reduceIte, not_true_eq_false, not_false_eq_true, Option.toList_some, Option.toList_none, List.cons_append, List.nil_append, Nat.reduceAdd, Nat.add_assoc, ku_ne, ku_same, ne_eq, Nat.reduceEqDiff, reduceCtorEq, Nat.add_eq_left, Nat.left_eq_add, Nat.reduceEqDiff, q10, q_ne, true_or, or_true, h.1, hn, hf_bdx hh_124]
theorem c_tree0 (h : Hx g) (he : hf_n g < 1000000) (hB : Alb g I J P cn Hs nx) (hp : p < P) (hk : k < cn p) : hf_rn 125 0 [some (.ref 0), some (.int (nI p)), some (.int (nI k)), some (.int 0)] [] g I J = some (.inl (some (.int (brA P cn Hs nx p k))), g, I, J) := by
  simp only [s125_0, s125_1, s125_2, s125_3, s125_6, s125_7, s125_8, s125_9, s125_12, s125_13, s125_16, s125_17, s125_20, s125_21, s125_22, s125_25, s125_26, s125_27, s125_28, s125_31, s125_32, s125_35, s125_36, s125_37, s125_40, s125_43, s125_44, s125_47, s125_48, s125_49, s125_52, hf_bd_v, hf_bd_n, hf_iv_i, hf_iv_l, hf_iv_a, hf_iv_n, hf_iv_2, z_lgl, z_lgg, z_lge, z_lgle, z_lgz, Option.getD_some, Option.isSome_some, ↓reduceIte, not_true_eq_false, not_false_eq_true, Option.toList_some, Option.toList_none, List.cons_append, List.nil_append, Nat.reduceAdd, Nat.add_assoc, ku_ne, ku_same, ne_eq, Nat.reduceEqDiff, reduceCtorEq, Nat.add_eq_left, Nat.left_eq_add, Nat.reduceEqDiff, q10, q_ne, true_or, or_true, hx_k h, hx_r0 h, hx_r1 h, hx_r2 h, hx_r3 h, hx_r4 h, hx_r5 h, h.1, hB.1.1, c_needKept h hB hp hk, c_needRange he, if_pos (show (0 : Int32) ≤ 0 ∧ (0 : Int32) ≤ 2 from by decide), c_branch hB hp hk]
theorem c_tree1 (h : Hx g) (he : hf_n g < 1000000) (hB : Alb g I J P cn Hs nx) (hp : p < P) (hk : k < cn p) : hf_rn 125 0 [some (.ref 0), some (.int (nI p)), some (.int (nI k)), some (.int 1)] [] g I J = some (.inl (some (.int (hmA P cn nx p k))), g, I, J) := by
  simp only [s125_0, s125_1, s125_2, s125_3, s125_6, s125_7, s125_8, s125_9, s125_12, s125_13, s125_16, s125_17, s125_20, s125_21, s125_22, s125_25, s125_26, s125_27, s125_28, s125_31, s125_32, s125_35, s125_36, s125_37, s125_40, s125_43, s125_44, s125_47, s125_48, s125_49, s125_52, hf_bd_v, hf_bd_n, hf_iv_i, hf_iv_l, hf_iv_a, hf_iv_n, hf_iv_2, z_lgl, z_lgg, z_lge, z_lgle, z_lgz, Option.getD_some, Option.isSome_some, ↓reduceIte, not_true_eq_false, not_false_eq_true, Option.toList_some, Option.toList_none, List.cons_append, List.nil_append, Nat.reduceAdd, Nat.add_assoc, ku_ne, ku_same, ne_eq, Nat.reduceEqDiff, reduceCtorEq, Nat.add_eq_left, Nat.left_eq_add, Nat.reduceEqDiff, q10, q_ne, true_or, or_true, hx_k h, hx_r0 h, hx_r1 h, hx_r2 h, hx_r3 h, hx_r4 h, hx_r5 h, h.1, hB.1.1, c_needKept h hB hp hk, c_needRange he, if_pos (show (0 : Int32) ≤ 1 ∧ (1 : Int32) ≤ 2 from by decide), c_howGo hB hp hk]
theorem c_tree2 (h : Hx g) (he : hf_n g < 1000000) (hB : Alb g I J P cn Hs nx) (hp : p < P) (hk : k < cn p) : hf_rn 125 0 [some (.ref 0), some (.int (nI p)), some (.int (nI k)), some (.int 2)] [] g I J = some (.inl (some (.int (tsR cn nx p (up (fun j => if j < 12 then 0 else J 33 j) p (bitL k)) 1).2)), g, I, hf_w J 33 (tsR cn nx p (up (fun j => if j < 12 then 0 else J 33 j) p (bitL k)) 1).1) := by
  simp only [s125_0, s125_1, s125_2, s125_3, s125_6, s125_7, s125_8, s125_9, s125_12, s125_13, s125_16, s125_17, s125_20, s125_21, s125_22, s125_25, s125_26, s125_27, s125_28, s125_31, s125_32, s125_35, s125_36, s125_37, s125_40, s125_43, s125_44, s125_47, s125_48, s125_49, s125_52, hf_bd_v, hf_bd_n, hf_iv_i, hf_iv_l, hf_iv_a, hf_iv_n, hf_iv_2, z_lgl, z_lgg, z_lge, z_lgle, z_lgz, Option.getD_some, Option.isSome_some, ↓reduceIte, not_true_eq_false, not_false_eq_true, Option.toList_some, Option.toList_none, List.cons_append, List.nil_append, Nat.reduceAdd, Nat.add_assoc, ku_ne, ku_same, ne_eq, Nat.reduceEqDiff, reduceCtorEq, Nat.add_eq_left, Nat.left_eq_add, Nat.reduceEqDiff, q10, q_ne, true_or, or_true, hx_k h, hx_r0 h, hx_r1 h, hx_r2 h, hx_r3 h, hx_r4 h, hx_r5 h, h.1, hB.1.1, c_needKept h hB hp hk, c_needRange he, if_pos (show (0 : Int32) ≤ 2 ∧ (2 : Int32) ≤ 2 from by decide), c_tree hB hp hk, show ((2 : Int32) = 0) = False from eq_false (by decide), show ((2 : Int32) = 1) = False from eq_false (by decide)]
theorem c_treeX (h : Hx g) (hn : NX g I J i j) : hf_rn 125 0 [some (.ref 0), some (.int i), some (.int j), some (.int x)] [] g I J = some (.inr 3, hf_th g, I, J) := by
  unfold NX at hn
  simp only [s125_0, s125_1, s125_2, s125_3, s125_6, s125_7, s125_8, s125_9, s125_12, s125_13, s125_16, s125_17, s125_20, s125_21, s125_22, s125_25, s125_26, s125_27, s125_28, s125_31, s125_32, s125_35, s125_36, s125_37, s125_40, s125_43, s125_44, s125_47, s125_48, s125_49, s125_52, hf_bd_v, hf_bd_n, hf_iv_i, hf_iv_l, hf_iv_a, hf_iv_n, hf_iv_2, z_lgl, z_lgg, z_lge, z_lgle, z_lgz, Option.getD_some, Option.isSome_some, ↓reduceIte, not_true_eq_false, not_false_eq_true, Option.toList_some, Option.toList_none, List.cons_append, List.nil_append, Nat.reduceAdd, Nat.add_assoc, ku_ne, ku_same, ne_eq, Nat.reduceEqDiff, reduceCtorEq, Nat.add_eq_left, Nat.left_eq_add, Nat.reduceEqDiff, q10, q_ne, true_or, or_true, h.1, hn, hf_bdx hh_125]
theorem c_treeX1 (h : Hx g) (he : hf_n g < 1000000) (hB : Alb g I J P cn Hs nx) (hp : p < P) (hk : k < cn p) (hm : ¬ (0 ≤ x ∧ x ≤ 2)) : hf_rn 125 0 [some (.ref 0), some (.int (nI p)), some (.int (nI k)), some (.int x)] [] g I J = some (.inr 1, hf_th g, I, J) := by
  simp only [s125_0, s125_1, s125_2, s125_3, s125_6, s125_7, s125_8, s125_9, s125_12, s125_13, s125_16, s125_17, s125_20, s125_21, s125_22, s125_25, s125_26, s125_27, s125_28, s125_31, s125_32, s125_35, s125_36, s125_37, s125_40, s125_43, s125_44, s125_47, s125_48, s125_49, s125_52, hf_bd_v, hf_bd_n, hf_iv_i, hf_iv_l, hf_iv_a, hf_iv_n, hf_iv_2, z_lgl, z_lgg, z_lge, z_lgle, z_lgz, Option.getD_some, Option.isSome_some, ↓reduceIte, not_true_eq_false, not_false_eq_true, Option.toList_some, Option.toList_none, List.cons_append, List.nil_append, Nat.reduceAdd, Nat.add_assoc, ku_ne, ku_same, ne_eq, Nat.reduceEqDiff, reduceCtorEq, Nat.add_eq_left, Nat.left_eq_add, Nat.reduceEqDiff, q10, q_ne, true_or, or_true, h.1, c_needKept h hB hp hk, c_needRange he, if_neg hm, hf_bdx hh_125]
theorem c_galaxyF (h : Hx g) (he : hf_n g < 1000000) (hB : Alb g I J P cn Hs nx) (hp : p < P) (hk : k < cn p) (hm : m < 4) : hf_rn 127 0 [some (.ref 0), some (.int (nI p)), some (.int (nI k)), some (.int (nI m))] [] g I J = some (.inl (some (.int (J (34 + 17 * p + 16) (4 * k + m)).toInt32)), g, I, J) := by
  have hA := hB.1
  have hat := c_atP hB hp
  have h64 := (hB.2.2.2.2.1 p hp).1
  have hPc : Pc g (34 + 17 * p) := al_pc hA p (by have := hB.2.1; omega)
  have hga := c_gasOf (I := I) (J := J) hPc (show 4 * k + m < 256 by omega)
  have hm2 : (0 : Int32) ≤ nI m ∧ nI m ≤ 3 := ⟨nI_pos' (by omega), by rw [show (3 : Int32) = nI 3 from rfl]; exact nI_le (by omega) (by omega)⟩
  simp only [s127_0, s127_1, s127_2, s127_3, s127_6, s127_7, s127_8, s127_9, s127_12, s127_13, s127_16, s127_17, s127_20, s127_21, s127_22, s127_25, s127_26, hf_bd_v, hf_bd_n, hf_iv_i, hf_iv_l, hf_iv_a, hf_iv_n, hf_iv_2, z_lgl, z_lgg, z_lge, z_lgle, z_lgz, Option.getD_some, Option.isSome_some, ↓reduceIte, not_true_eq_false, not_false_eq_true, Option.toList_some, Option.toList_none, List.cons_append, List.nil_append, Nat.reduceAdd, Nat.add_assoc, ku_ne, ku_same, ne_eq, Nat.reduceEqDiff, reduceCtorEq, Nat.add_eq_left, Nat.left_eq_add, Nat.reduceEqDiff, q10, q_ne, true_or, or_true, hx_k h, hx_r0 h, hx_r1 h, hx_r2 h, hx_r3 h, hx_r4 h, hx_r5 h, h.1, hA.1, c_needKept h hB hp hk, c_needRange he, if_pos hm2, hat, hPc.1, hga]
theorem c_galaxyX (h : Hx g) (hn : NX g I J i j) : hf_rn 127 0 [some (.ref 0), some (.int i), some (.int j), some (.int x)] [] g I J = some (.inr 3, hf_th g, I, J) := by
  unfold NX at hn
  simp only [s127_0, s127_1, s127_2, s127_3, s127_6, s127_7, s127_8, s127_9, s127_12, s127_13, s127_16, s127_17, s127_20, s127_21, s127_22, s127_25, s127_26, hf_bd_v, hf_bd_n, hf_iv_i, hf_iv_l, hf_iv_a, hf_iv_n, hf_iv_2, z_lgl, z_lgg, z_lge, z_lgle, z_lgz, Option.getD_some, Option.isSome_some, ↓reduceIte, not_true_eq_false, not_false_eq_true, Option.toList_some, Option.toList_none, List.cons_append, List.nil_append, Nat.reduceAdd, Nat.add_assoc, ku_ne, ku_same, ne_eq, Nat.reduceEqDiff, reduceCtorEq, Nat.add_eq_left, Nat.left_eq_add, Nat.reduceEqDiff, q10, q_ne, true_or, or_true, h.1, hn, hf_bdx hh_127]
theorem c_galaxyX1 (h : Hx g) (he : hf_n g < 1000000) (hB : Alb g I J P cn Hs nx) (hp : p < P) (hk : k < cn p) (hm : ¬ (0 ≤ x ∧ x ≤ 3)) : hf_rn 127 0 [some (.ref 0), some (.int (nI p)), some (.int (nI k)), some (.int x)] [] g I J = some (.inr 1, hf_th g, I, J) := by
  simp only [s127_0, s127_1, s127_2, s127_3, s127_6, s127_7, s127_8, s127_9, s127_12, s127_13, s127_16, s127_17, s127_20, s127_21, s127_22, s127_25, s127_26, hf_bd_v, hf_bd_n, hf_iv_i, hf_iv_l, hf_iv_a, hf_iv_n, hf_iv_2, z_lgl, z_lgg, z_lge, z_lgle, z_lgz, Option.getD_some, Option.isSome_some, ↓reduceIte, not_true_eq_false, not_false_eq_true, Option.toList_some, Option.toList_none, List.cons_append, List.nil_append, Nat.reduceAdd, Nat.add_assoc, ku_ne, ku_same, ne_eq, Nat.reduceEqDiff, reduceCtorEq, Nat.add_eq_left, Nat.left_eq_add, Nat.reduceEqDiff, q10, q_ne, true_or, or_true, h.1, c_needKept h hB hp hk, c_needRange he, if_neg hm, hf_bdx hh_127]
theorem c_voidF (h : Hx g) (hc : I 2 5 = nI c) (hc2 : c ≤ 64) (vc : Nat → Nat) (hv : ∀ m, m < c → vc m < 64 ∧ (8 * (J 4 m / 512) + J 6 m / 512).toInt32 = nI (vc m)) : hf_rn 134 0 [some (.ref 0)] [] g I J = some (.inl (some (.int (hoF (tkL c vc ^^^ -1) 64).2)), g, I, J) := by
  have hS : Sc g 1 := hx_sc1 h
  have hG : Gr g 2 := sc_gr1 hS
  have f : hf_r g 1 0 = some 2 := sc_r0 hS
  have hv2 := c_greatest (I := I) (J := J) hG hc hc2 vc hv
  simp only [s134_0, s134_1, s134_4, s134_7, s134_10, hf_bd_v, hf_bd_n, hf_iv_i, hf_iv_l, hf_iv_a, hf_iv_n, hf_iv_2, z_lgl, z_lgg, z_lge, z_lgle, z_lgz, Option.getD_some, Option.isSome_some, ↓reduceIte, not_true_eq_false, not_false_eq_true, Option.toList_some, Option.toList_none, List.cons_append, List.nil_append, Nat.reduceAdd, Nat.add_assoc, ku_ne, ku_same, ne_eq, Nat.reduceEqDiff, reduceCtorEq, Nat.add_eq_left, Nat.left_eq_add, Nat.reduceEqDiff, q10, q_ne, true_or, or_true, hx_k h, hx_r0 h, hx_r1 h, hx_r2 h, hx_r3 h, hx_r4 h, hx_r5 h, hS.1, hG.1, f, hv2]
/-- one picture is joined to the new one -/
theorem c_letD (hB : Alb g I J (n + 1) cn Hs nx) (hd : d = 1 ∨ d = 2) : ∃ J2, hf_rn 6 0 [some (.ref 13), some (.int (iZ ((n : Int) - d))), some (.int (nI n)), none, none, none] [] g I J = some (.inl none, g, I, J2) ∧ Alb g I J2 (n + 1) cn Hs (if d ≤ n then lgN cn Hs nx n (n - d) else nx) ∧ ∀ a, (∀ x, x < n + 1 → a ≠ 34 + 17 * x + 14) → J2 a = J a := by
  have hn := hB.2.1
  by_cases c1 : d ≤ n
  · have e : iZ ((n : Int) - d) = nI (n - d) := by rw [nI_iZ]; congr 1; omega
    rw [e, if_pos c1]
    exact ⟨_, c_letOn hB (by omega) (by omega), alb_let hB (by omega) (by omega), fun a ha => kw_ne (ha _ (by omega))⟩
  · rw [if_neg c1]
    exact ⟨J, c_letOff hB (by omega) (by omega), hB, fun a _ => rfl⟩
/-- the heap when a picture was begun -/
def adI (I : hf_I) (n s c : Nat) (i : Int32) (h : Nat) : hf_I := hf_u (hf_u (hf_u (hf_u (hf_u I 13 3 (nI (n + 1))) (34 + 17 * n + 2) 4 (nI s)) (34 + 17 * n + 2) 5 (nI c)) (34 + 17 * n + 1) 4 i) (34 + 17 * n + 1) 2 (nI h)
def adJ (J : hf_J) (A : Nat) : hf_J := rwm (rwm4 J (A + 4) (A + 6) (A + 8) (A + 10) 64 (J 4) (J 6) (J 8) (J 10)) (A + 14) 64 (fun _ => -1)
def adQ (J : hf_J) (A c : Nat) (v : Int64) (i : Int32) : Int64 × Nat × (Nat → Int64) := fhF c (adJ J A (A + 4)) (adJ J A (A + 6)) v i (adJ J A (A + 12)) c
def adK (J : hf_J) (A c : Nat) (v : Int64) (i : Int32) : hf_J := hf_w (hf_u (adJ J A) (A + 1) 3 v) (A + 12) (adQ J A c v i).2.2
def adN (n : Nat) (cn : Nat → Nat) (Hs : Nat → Nat → Int64) (nx : Nat → Nat → Option (Nat × Nat)) : Nat → Nat → Option (Nat × Nat) :=
  if 2 ≤ n then lgN cn Hs (if 1 ≤ n then lgN cn Hs (up nx n (fun _ => none)) n (n - 1) else up nx n (fun _ => none)) n (n - 2) else if 1 ≤ n then lgN cn Hs (up nx n (fun _ => none)) n (n - 1) else up nx n (fun _ => none)
theorem adJ_n {A : Nat} (h : a < A + 4 ∨ A + 14 < a ∨ a = A + 12) : adJ J A a = J a := by
  unfold adJ
  rw [rwm_ne (by omega), rwm4, rwm2, rwm_ne (by omega), rwm_ne (by omega), rwm2, rwm_ne (by omega), rwm_ne (by omega)]
theorem c_add0 (hB : Alb g I J n cn Hs nx) (hn : n < 12) (hq : (adQ J (34 + 17 * n) c v i).2.1 ≤ 64) : Alb g (adI I n s c i (adQ J (34 + 17 * n) c v i).2.1) (adK J (34 + 17 * n) c v i) (n + 1) (up cn n (adQ J (34 + 17 * n) c v i).2.1) (up Hs n (adQ J (34 + 17 * n) c v i).2.2) (up nx n (fun _ => none)) := by
  obtain ⟨a1, a2, a3, a4, a5, a6, a7, a8⟩ := hB
  generalize hA : 34 + 17 * n = A at *
  have eK : ∀ x, x < A + 1 ∨ A + 16 < x → adK J A c v i x = J x := by
    intro x hx
    unfold adK
    rw [kw_ne (by omega), ku_ne (by omega), adJ_n (by omega)]
  have eI : ∀ x, x < A + 1 → x ≠ 13 → adI I n s c i (adQ J A c v i).2.1 x = I x := by
    intro x hx hx2
    unfold adI
    rw [hA, ku_ne (by omega), ku_ne (by omega), ku_ne (by omega), ku_ne (by omega), ku_ne (by omega)]
  refine ⟨a1, by omega, ?_, ?_, ?_, ?_, ?_, ?_⟩
  · unfold adI
    rw [hA, ku_ne (by omega), ku_ne (by omega), ku_ne (by omega), ku_ne (by omega), ku_same]
  · rw [eI 16 (by omega) (by decide)]; exact a4
  · intro x hx
    by_cases e : x = n
    · subst e
      rw [up_s, hA]
      refine ⟨hq, ?_⟩
      unfold adI
      rw [hA, ku_same]
    · rw [up_n e, eI _ (by omega) (by omega)]
      exact a5 x (by omega)
  · intro x hx
    by_cases e : x = n
    · subst e
      rw [up_s, hA]
      unfold adK
      rw [kw_row]
    · rw [up_n e, eK _ (by omega)]
      exact a6 x (by omega)
  · intro x k hx hk
    by_cases e : x = n
    · subst e
      rw [up_s] at hk
      rw [up_s, hA]
      unfold adK
      rw [kw_ne (by omega), ku_ne (by omega)]
      unfold adJ
      rw [rwm_lt (by omega)]
      rfl
    · rw [up_n e] at hk ⊢
      rw [eK _ (by omega)]
      exact a7 x k (by omega) hk
  · intro x k y z hx hk hy
    by_cases e : x = n
    · subst e; rw [up_s] at hy; cases hy
    · rw [up_n e] at hk hy
      obtain ⟨b1, b2, b3⟩ := a8 x k y z (by omega) hk hy
      refine ⟨b1, by omega, ?_⟩
      rw [up_n (by omega)]
      exact b3
theorem c_addA (hG : Gr g 2) (hB : Alb g I J n cn Hs nx) (hn : n < 12) (hs : I 2 4 = nI s) (hc : I 2 5 = nI c) (hc2 : c ≤ 64) (h4 : J 13 4 = u) (h5 : J 13 5 = w) (h6 : J 13 6 = q64) :
    ∃ J2, hf_rn 4 0 [some (.ref 13), some (.ref 2), some (.long v), none, some (.int i), none, none] [] g I J = some (.inl (some (.int (nI n))), g, adI I n s c i (adQ J (34 + 17 * n) c v i).2.1, gw J2 (n + 1) (g2F (up cn n (adQ J (34 + 17 * n) c v i).2.1) (adN n (up cn n (adQ J (34 + 17 * n) c v i).2.1) (up Hs n (adQ J (34 + 17 * n) c v i).2.2) nx) u w q64 (g1F (up cn n (adQ J (34 + 17 * n) c v i).2.1) (up Hs n (adQ J (34 + 17 * n) c v i).2.2) (fun i => J2 (34 + 17 * i + 16)) (n + 1)).2 (n + 1))) ∧
      Alb g (adI I n s c i (adQ J (34 + 17 * n) c v i).2.1) J2 (n + 1) (up cn n (adQ J (34 + 17 * n) c v i).2.1) (up Hs n (adQ J (34 + 17 * n) c v i).2.2) (adN n (up cn n (adQ J (34 + 17 * n) c v i).2.1) (up Hs n (adQ J (34 + 17 * n) c v i).2.2) nx) ∧ ∀ a, (∀ x, x < n + 1 → a ≠ 34 + 17 * x + 14) → J2 a = adK J (34 + 17 * n) c v i a := by
  have hq : (adQ J (34 + 17 * n) c v i).2.1 ≤ 64 := Nat.le_trans (fhF_le c) hc2
  have hB0 := c_add0 (s := s) (c := c) (v := v) (i := i) hB hn hq
  have hA := hB.1
  have hPc : Pc g (34 + 17 * n) := al_pc hA n hn
  have hS := pc_sc1 hPc
  obtain ⟨A, hAd⟩ : ∃ A, A = 34 + 17 * n := ⟨_, rfl⟩
  rw [← hAd] at hB0 hPc hS hq ⊢
  -- the picture is begun
  have hI1s : hf_u I 13 3 (nI (n + 1)) 2 4 = nI s := by rw [ku_ne (by decide), hs]
  have hI1c : hf_u I 13 3 (nI (n + 1)) 2 5 = nI c := by rw [ku_ne (by decide), hc]
  have hbg := c_pcbegin (J := J) hPc hG hI1s hI1c (Or.inr (by omega))
  have hbg2 : rwm (rwm4 J (A + 4) (A + 6) (A + 8) (A + 10) 64 (J (2 + 2)) (J (2 + 4)) (J (2 + 6)) (J (2 + 8))) (A + 14) 64 (fun _ => -1) = adJ J A := rfl
  rw [hbg2] at hbg
  have hc3 : hf_u (hf_u (hf_u I 13 3 (nI (n + 1))) (A + 2) 4 (nI s)) (A + 2) 5 (nI c) (A + 1 + 1) 5 = nI c := by rw [show A + 1 + 1 = A + 2 from rfl, ku_same]
  have hfh := c_findHalos (J := adJ J A) (v := v) (i := i) hS hc3 hc2
  have e1 : hf_u (hf_u (hf_u (hf_u (hf_u I 13 3 (nI (n + 1))) (A + 2) 4 (nI s)) (A + 2) 5 (nI c)) (A + 1) 4 i) (A + 1) 2 (nI (fhF c (adJ J A (A + 1 + 3)) (adJ J A (A + 1 + 5)) v i (adJ J A (A + 1 + 11)) c).2.1) = adI I n s c i (adQ J A c v i).2.1 := by
    unfold adI adQ
    rw [← hAd]
  have e2 : hf_w (hf_u (adJ J A) (A + 1) 3 v) (A + 1 + 11) (fhF c (adJ J A (A + 1 + 3)) (adJ J A (A + 1 + 5)) v i (adJ J A (A + 1 + 11)) c).2.2 = adK J A c v i := rfl
  rw [e1, e2] at hfh
  have hat := c_at (I := hf_u I 13 3 (nI (n + 1))) (J := J) (n := n + 1) (e := (n : Int)) hA ku_same (by omega) (by omega) (by omega)
  rw [← nI_iZ, pZ_in (by omega) (by omega), show ((n : Int)).toNat = n from rfl, ← hAd] at hat
  -- joined
  obtain ⟨J3, l1, hB1, f1⟩ := c_letD (d := 1) hB0 (Or.inl rfl)
  obtain ⟨J4, l2, hB2, f2⟩ := c_letD (d := 2) hB1 (Or.inr rfl)
  have hN : (if 2 ≤ n then lgN (up cn n (adQ J A c v i).2.1) (up Hs n (adQ J A c v i).2.2) (if 1 ≤ n then lgN (up cn n (adQ J A c v i).2.1) (up Hs n (adQ J A c v i).2.2) (up nx n (fun _ => none)) n (n - 1) else up nx n (fun _ => none)) n (n - 2) else (if 1 ≤ n then lgN (up cn n (adQ J A c v i).2.1) (up Hs n (adQ J A c v i).2.2) (up nx n (fun _ => none)) n (n - 1) else up nx n (fun _ => none))) = adN n (up cn n (adQ J A c v i).2.1) (up Hs n (adQ J A c v i).2.2) nx := rfl
  rw [hN] at hB2
  have f3 : ∀ a, (∀ x, x < n + 1 → a ≠ 34 + 17 * x + 14) → J4 a = adK J A c v i a := fun a ha => (f2 a ha).trans (f1 a ha)
  have k13 : J4 13 = J 13 := by
    rw [f3 13 (by omega)]
    unfold adK
    rw [kw_ne (by omega), ku_ne (by omega), adJ_n (by omega)]
  have hgr := c_grow (u := u) (v := w) (w := q64) hB2 (by rw [k13, h4]) (by rw [k13, h5]) (by rw [k13, h6])
  refine ⟨J4, ?_, hB2, f3⟩
  have e3 : nI n - 1 = iZ ((n : Int) - (1 : Nat)) := by rw [nI_m1]; rfl
  have e4 : nI n - 2 = iZ ((n : Int) - (2 : Nat)) := by rw [nI_m2]; rfl
  simp only [s4_0, s4_1, s4_4, s4_6, s4_7, s4_8, s4_11, s4_12, s4_13, s4_16, s4_17, s4_19, s4_22, s4_24, s4_26, s4_27, s4_30, s4_32, s4_35, s4_36, s4_38, s4_41, s4_42, s4_44, s4_45, s4_46, s4_48, s4_51, s4_52, s4_54, s4_55, s4_56, s4_58, s4_61, s4_62, s4_65, s4_67, hf_bd_v, hf_bd_n, hf_iv_i, hf_iv_l, hf_iv_a, hf_iv_n, hf_iv_2, z_lgl, z_lgg, z_lge, z_lgle, z_lgz, Option.getD_some, Option.isSome_some, ↓reduceIte, not_true_eq_false, not_false_eq_true, Option.toList_some, Option.toList_none, List.cons_append, List.nil_append, Nat.reduceAdd, Nat.add_assoc, ku_ne, ku_same, ne_eq, Nat.reduceEqDiff, reduceCtorEq, Nat.add_eq_left, Nat.left_eq_add, Nat.reduceEqDiff, q10, q_ne, true_or, or_true, al_k hA, al_r0 hA, al_r1 hA, al_r2 hA, al_k14 hA, pc_k hPc, pc_r0 hPc, pc_r1 hPc, pc_r2 hPc, hA.1, hPc.1, hS.1, hB.2.2.1, z_1, hat, hbg, hfh, e3, e4, l1, l2, hgr]
end
