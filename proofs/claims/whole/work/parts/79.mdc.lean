/-! THE MODEL: pictures, what goes on in what -/
def Mdp (I : hf_I) (c P : Nat) (cn : Nat → Nat) : Prop := I 270 1 = nI c ∧ c ≤ 64 ∧ I 270 15 = nI P ∧ P ≤ 12 ∧ (∀ e, e < P → cn e ≤ 64 ∧ I 276 e = nI (cn e)) ∧ (∀ e k, e < P → k < c → I 275 (64 * e + k) = -1 ∨ ∃ h, h < cn e ∧ I 275 (64 * e + k) = nI h)
def s64 (O F : Nat → Int32) : Prop := ∀ j, 64 ≤ j → F j = O j
/-- a row of shares, told anew -/
def gzM (O : Nat → Int32) : Nat → Int32 := fun j => if j < 64 then 0 else O j
def g1M (R O : Nat → Int32) (p : Nat) (i : Int32) (l : Nat) (t : Nat) : (Nat → Int32) × Bool := it t (gzM O, false) fun k q => if R (64 * l + k) = -1 then q else if R (64 * p + k) = i then (up q.1 (R (64 * l + k)).toNatClampNeg (q.1 (R (64 * l + k)).toNatClampNeg + 1), true) else q
def mxM (B : Nat → Int32) (t : Nat) : Nat := it t 0 fun t f => if B (t + 1) ≤ B f then f else t + 1
def goO (R O : Nat → Int32) (p : Nat) (i : Int32) (l c : Nat) : Option Nat := if (g1M R O p i l c).2 = true then some (mxM (g1M R O p i l c).1 63) else none
def coM (o : Option Nat) : Int32 := match o with
  | none => -1
  | some f => nI f
def nxO (R O : Nat → Int32) (P c p k : Nat) : Option (Nat × Nat) :=
  if p + 1 < P then match goO R O p (nI k) (p + 1) c with
    | some f => some (p + 1, f)
    | none => if p + 2 < P then match goO R O p (nI k) (p + 2) c with
      | some f => some (p + 2, f)
      | none => none else none else none
theorem gzM_s {O F : Nat → Int32} (h : s64 O F) : gzM F = gzM O := by
  funext j
  unfold gzM
  split
  · rfl
  · exact h j (by omega)
theorem goO_s {R O F : Nat → Int32} {p l c : Nat} {i : Int32} (h : s64 O F) : goO R F p i l c = goO R O p i l c := by
  unfold goO g1M
  rw [gzM_s h]
theorem nxO_s {R O F : Nat → Int32} {P c p k : Nat} (h : s64 O F) : nxO R F P c p k = nxO R O P c p k := by
  unfold nxO
  rw [goO_s h, goO_s h]
theorem mxM_le {B : Nat → Int32} : ∀ t, mxM B t ≤ t := by
  intro t
  induction t with
  | zero => exact Nat.le_refl _
  | succ t ih =>
    rw [mxM, it_s, ← mxM]
    split <;> omega
theorem goO_lt {R O : Nat → Int32} {p l c f : Nat} {i : Int32} (h : goO R O p i l c = some f) : f < 64 := by
  unfold goO at h
  split at h
  · cases h
    have := @mxM_le (g1M R O p i l c).1 63
    omega
  · cases h
theorem nxO_lt {R O : Nat → Int32} {P c p k j x : Nat} (hP : P ≤ 12) (h : nxO R O P c p k = some (j, x)) : p < j ∧ j < P ∧ x < 64 := by
  unfold nxO at h
  split at h
  · split at h
    · rename_i f hf
      cases h
      exact ⟨by omega, by omega, goO_lt hf⟩
    · split at h
      · split at h
        · rename_i f hf
          cases h
          exact ⟨by omega, by omega, goO_lt hf⟩
        · cases h
      · cases h
  · cases h
theorem g1M_out {R O : Nat → Int32} {p l c : Nat} {i : Int32} (hR : ∀ k, k < c → R (64 * l + k) = -1 ∨ ∃ h, h < 64 ∧ R (64 * l + k) = nI h) : ∀ t, t ≤ c → s64 O (g1M R O p i l t).1 := by
  intro t
  induction t with
  | zero =>
    intro _ j hj
    rw [g1M, it_0]
    exact if_neg (by omega)
  | succ t ih =>
    intro ht j hj
    have ih := ih (by omega)
    rw [g1M, it_s, ← g1M]
    split
    · exact ih j hj
    · rename_i h1
      split
      · obtain ⟨h, h2, h3⟩ := (hR t (by omega)).resolve_left h1
        rw [h3, nI_clamp (by omega)]
        dsimp only
        rw [up_n (by omega)]
        exact ih j hj
      · exact ih j hj
section
variable {g : hf_G} {I : hf_I} {J : hf_J} {a b c k l m n s p q cl P : Nat} {u v w : Int64} {i j x y : Int32} {F H K : Nat → Int32} {cn : Nat → Nat}
theorem mdp_fr {I2 : hf_I} (h : Mdp I c P cn) (h1 : I2 270 = I 270) (h2 : I2 276 = I 276) (h3 : I2 275 = I 275) : Mdp I2 c P cn := by
  unfold Mdp
  rw [h1, h2, h3]
  exact h
theorem mdp_sh (h : Mdp I c P cn) : Mdp (hf_w I 280 F) c P cn := mdp_fr h (kw_ne (by decide)) (kw_ne (by decide)) (kw_ne (by decide))
theorem mdp_64 (h : Mdp I c P cn) {e : Nat} (he : e < P) : ∀ k, k < c → I 275 (64 * e + k) = -1 ∨ ∃ h, h < 64 ∧ I 275 (64 * e + k) = nI h := by
  intro k hk
  rcases h.2.2.2.2.2 e k he hk with h1 | ⟨x, h1, h2⟩
  · exact Or.inl h1
  · exact Or.inr ⟨x, by have := (h.2.2.2.2.1 e he).1; omega, h2⟩
theorem m_goesIn (h : Md g) (hM : Mdp I c P cn) (hp : p < P) (hl : l < P) : hf_rn 197 0 [some (.ref 270), some (.int (nI p)), some (.int i), some (.int (nI l)), none, none, none] [] g I J = some (.inl (some (.int (coM (goO (I 275) (I 280) p i l c)))), g, hf_w I 280 (g1M (I 275) (I 280) p i l c).1, J) := by
  obtain ⟨hc, hc2, hP1, hP2, hM5, hM6⟩ := id hM
  have h1 : ∀ F : Nat → Int32, hf_w I 280 F 270 = I 270 := fun F => kw_ne (by decide)
  have h2 : ∀ F : Nat → Int32, hf_w I 280 F 275 = I 275 := fun F => kw_ne (by decide)
  have hR := mdp_64 hM hl
  generalize I 275 = R at *
  obtain ⟨O, hO⟩ : ∃ O, O = I 280 := ⟨_, rfl⟩
  rw [← hO]
  have hcl : ∀ B : Nat → Int32, hf_w I 280 B 280 = B := fun B => kw_row
  -- the most
  have loop3 : ∀ (B : Nat → Int32) l6, hf_rn 197 98 [some (.ref 270), some (.int (nI p)), some (.int i), some (.int (nI l)), some (.int (nI 0)), some (.int (nI (0 + 1))), l6] [] g (hf_w I 280 B) J = some (.inl (some (.int (nI (mxM B 63)))), g, hf_w I 280 B, J) := by
    intro B l6
    refine down (n := 63) (s := (0 : Nat)) (f := fun t f => if B (t + 1) ≤ B f then f else t + 1) (fun t f => hf_rn 197 98 [some (.ref 270), some (.int (nI p)), some (.int i), some (.int (nI l)), some (.int (nI f)), some (.int (nI (t + 1))), l6] [] g (hf_w I 280 B) J = some (.inl (some (.int (nI (mxM B 63)))), g, hf_w I 280 B, J)) ?_ ?_
    · have h64 : (64 : Int32) ≤ nI (63 + 1) := by decide
      simp only [s197_98, s197_100, s197_102, s197_105, s197_107, s197_108, s197_111, s197_112, s197_115, s197_117, s197_118, s197_119, s197_122, s197_124, s197_125, s197_128, s197_130, s197_133, s197_135, s197_137, s197_143, s197_145, hf_bd_v, hf_bd_n, hf_iv_i, hf_iv_l, hf_iv_a, hf_iv_n, hf_iv_2, z_lgl, z_lgg, z_lge, z_lgle, z_lgz, Option.getD_some, Option.isSome_some, ↓reduceIte, not_true_eq_false, not_false_eq_true, Option.toList_some, Option.toList_none, List.cons_append, List.nil_append, Nat.reduceAdd, Nat.add_assoc, ku_ne, ku_same, ne_eq, Nat.reduceEqDiff, reduceCtorEq, Nat.add_eq_left, Nat.left_eq_add, Nat.reduceEqDiff, q10, q_ne, true_or, or_true, h64]
      rfl
    · intro t f ht hx ih
      have hf : f ≤ t := by rw [hx]; exact mxM_le t
      have h64 : ((64 : Int32) ≤ nI (t + 1)) = (64 ≤ t + 1) := z_ii (a := 64) (by decide) (by omega)
      have hk1 : ¬ 64 ≤ t + 1 := by omega
      have hnl : ¬ nI f = -1 := by rw [nI_iZ, show (-1 : Int32) = iZ (-1) from rfl, iZ_eq (iRs (by omega) (by omega)) (iRs (by omega) (by omega))]; omega
      by_cases c1 : B (t + 1) ≤ B f
      · rw [if_pos c1] at ih
        simp only [s197_98, s197_100, s197_102, s197_105, s197_107, s197_108, s197_111, s197_112, s197_115, s197_117, s197_118, s197_119, s197_122, s197_124, s197_125, s197_128, s197_130, s197_133, s197_135, s197_137, hf_bd_v, hf_bd_n, hf_iv_i, hf_iv_l, hf_iv_a, hf_iv_n, hf_iv_2, z_lgl, z_lgg, z_lge, z_lgle, z_lgz, Option.getD_some, Option.isSome_some, ↓reduceIte, not_true_eq_false, not_false_eq_true, Option.toList_some, Option.toList_none, List.cons_append, List.nil_append, Nat.reduceAdd, Nat.add_assoc, ku_ne, ku_same, ne_eq, Nat.reduceEqDiff, reduceCtorEq, Nat.add_eq_left, Nat.left_eq_add, Nat.reduceEqDiff, q10, q_ne, true_or, or_true, md_k h, md_r16 h, md_k271 h, md_r17 h, md_k272 h, md_r18 h, md_k273 h, md_r19 h, md_k274 h, md_r20 h, md_k275 h, md_r21 h, md_k276 h, md_r22 h, md_k277 h, md_r23 h, md_k278 h, md_r24 h, md_k279 h, md_r25 h, md_k280 h, md_r26 h, md_k281 h, md_r27 h, md_k282 h, md_r28 h, md_k283 h, md_r29 h, md_k284 h, md_r30 h, md_k285 h, md_r31 h, md_k286 h, md_r33 h, md_k287 h, md_r34 h, md_k288 h, md_r35 h, md_k289 h, md_r36 h, md_k290 h, md_r37 h, md_k291 h, h64, hk1, hnl, hcl, z_1, z_in (show t + 1 < 2147483648 by omega), z_cl (show t + 1 < 2147483648 by omega), show t + 1 < 64 by omega, z_in (show f < 2147483648 by omega), z_cl (show f < 2147483648 by omega), show f < 64 by omega, decide_true, c1]
        rw [s197_140]
        exact ih
      · rw [if_neg c1] at ih
        simp only [s197_98, s197_100, s197_102, s197_105, s197_107, s197_108, s197_111, s197_112, s197_115, s197_117, s197_118, s197_119, s197_122, s197_124, s197_125, s197_128, s197_130, s197_133, s197_135, s197_137, hf_bd_v, hf_bd_n, hf_iv_i, hf_iv_l, hf_iv_a, hf_iv_n, hf_iv_2, z_lgl, z_lgg, z_lge, z_lgle, z_lgz, Option.getD_some, Option.isSome_some, ↓reduceIte, not_true_eq_false, not_false_eq_true, Option.toList_some, Option.toList_none, List.cons_append, List.nil_append, Nat.reduceAdd, Nat.add_assoc, ku_ne, ku_same, ne_eq, Nat.reduceEqDiff, reduceCtorEq, Nat.add_eq_left, Nat.left_eq_add, Nat.reduceEqDiff, q10, q_ne, true_or, or_true, md_k h, md_r16 h, md_k271 h, md_r17 h, md_k272 h, md_r18 h, md_k273 h, md_r19 h, md_k274 h, md_r20 h, md_k275 h, md_r21 h, md_k276 h, md_r22 h, md_k277 h, md_r23 h, md_k278 h, md_r24 h, md_k279 h, md_r25 h, md_k280 h, md_r26 h, md_k281 h, md_r27 h, md_k282 h, md_r28 h, md_k283 h, md_r29 h, md_k284 h, md_r30 h, md_k285 h, md_r31 h, md_k286 h, md_r33 h, md_k287 h, md_r34 h, md_k288 h, md_r35 h, md_k289 h, md_r36 h, md_k290 h, md_r37 h, md_k291 h, h64, hk1, hnl, hcl, z_1, z_in (show t + 1 < 2147483648 by omega), z_cl (show t + 1 < 2147483648 by omega), show t + 1 < 64 by omega, z_in (show f < 2147483648 by omega), z_cl (show f < 2147483648 by omega), show f < 64 by omega, decide_true, c1]
        rw [s197_140]
        exact ih
  -- the shares
  have loop2 : ∀ l6, hf_rn 197 30 [some (.ref 270), some (.int (nI p)), some (.int i), some (.int (nI l)), some (.int (if false = true then 0 else -1)), some (.int (nI 0)), l6] [] g (hf_w I 280 (gzM O)) J = some (.inl (some (.int (coM (goO R O p i l c)))), g, hf_w I 280 (g1M R O p i l c).1, J) := by
    refine down (n := c) (s := (gzM O, false)) (f := fun k q => if R (64 * l + k) = -1 then q else if R (64 * p + k) = i then (up q.1 (R (64 * l + k)).toNatClampNeg (q.1 (R (64 * l + k)).toNatClampNeg + 1), true) else q) (fun t q => ∀ l6, hf_rn 197 30 [some (.ref 270), some (.int (nI p)), some (.int i), some (.int (nI l)), some (.int (if q.2 = true then 0 else -1)), some (.int (nI t)), l6] [] g (hf_w I 280 q.1) J = some (.inl (some (.int (coM (goO R O p i l c)))), g, hf_w I 280 (g1M R O p i l c).1, J)) ?_ ?_
    · intro l6
      rw [show (it c (gzM O, false) fun k q => if R (64 * l + k) = -1 then q else if R (64 * p + k) = i then (up q.1 (R (64 * l + k)).toNatClampNeg (q.1 (R (64 * l + k)).toNatClampNeg + 1), true) else q) = g1M R O p i l c from rfl]
      unfold goO
      cases e : (g1M R O p i l c).2
      · simp only [s197_30, s197_32, s197_33, s197_36, s197_39, s197_40, s197_43, s197_45, s197_46, s197_47, s197_49, s197_50, s197_51, s197_53, s197_55, s197_56, s197_59, s197_60, s197_63, s197_65, s197_66, s197_67, s197_69, s197_70, s197_71, s197_72, s197_75, s197_76, s197_79, s197_81, s197_82, s197_83, s197_84, s197_85, s197_86, s197_87, s197_89, s197_95, s197_96, s197_98, s197_100, s197_102, s197_105, s197_107, s197_108, s197_143, s197_145, hf_bd_v, hf_bd_n, hf_iv_i, hf_iv_l, hf_iv_a, hf_iv_n, hf_iv_2, z_lgl, z_lgg, z_lge, z_lgle, z_lgz, Option.getD_some, Option.isSome_some, ↓reduceIte, not_true_eq_false, not_false_eq_true, Option.toList_some, Option.toList_none, List.cons_append, List.nil_append, Nat.reduceAdd, Nat.add_assoc, ku_ne, ku_same, ne_eq, Nat.reduceEqDiff, reduceCtorEq, Nat.add_eq_left, Nat.left_eq_add, Nat.reduceEqDiff, q10, q_ne, true_or, or_true, md_k h, md_r16 h, md_k271 h, md_r17 h, md_k272 h, md_r18 h, md_k273 h, md_r19 h, md_k274 h, md_r20 h, md_k275 h, md_r21 h, md_k276 h, md_r22 h, md_k277 h, md_r23 h, md_k278 h, md_r24 h, md_k279 h, md_r25 h, md_k280 h, md_r26 h, md_k281 h, md_r27 h, md_k282 h, md_r28 h, md_k283 h, md_r29 h, md_k284 h, md_r30 h, md_k285 h, md_r31 h, md_k286 h, md_r33 h, md_k287 h, md_r34 h, md_k288 h, md_r35 h, md_k289 h, md_r36 h, md_k290 h, md_r37 h, md_k291 h, h1, hc, z_ii (show c < 2147483648 by omega) (show c < 2147483648 by omega), Nat.le_refl, Bool.false_eq_true, show ((64 : Int32) ≤ 1) = False from eq_false (by decide), coM]
      · simp only [s197_30, s197_32, s197_33, s197_36, s197_39, s197_40, s197_43, s197_45, s197_46, s197_47, s197_49, s197_50, s197_51, s197_53, s197_55, s197_56, s197_59, s197_60, s197_63, s197_65, s197_66, s197_67, s197_69, s197_70, s197_71, s197_72, s197_75, s197_76, s197_79, s197_81, s197_82, s197_83, s197_84, s197_85, s197_86, s197_87, s197_89, s197_95, s197_96, hf_bd_v, hf_bd_n, hf_iv_i, hf_iv_l, hf_iv_a, hf_iv_n, hf_iv_2, z_lgl, z_lgg, z_lge, z_lgle, z_lgz, Option.getD_some, Option.isSome_some, ↓reduceIte, not_true_eq_false, not_false_eq_true, Option.toList_some, Option.toList_none, List.cons_append, List.nil_append, Nat.reduceAdd, Nat.add_assoc, ku_ne, ku_same, ne_eq, Nat.reduceEqDiff, reduceCtorEq, Nat.add_eq_left, Nat.left_eq_add, Nat.reduceEqDiff, q10, q_ne, true_or, or_true, md_k h, md_r16 h, md_k271 h, md_r17 h, md_k272 h, md_r18 h, md_k273 h, md_r19 h, md_k274 h, md_r20 h, md_k275 h, md_r21 h, md_k276 h, md_r22 h, md_k277 h, md_r23 h, md_k278 h, md_r24 h, md_k279 h, md_r25 h, md_k280 h, md_r26 h, md_k281 h, md_r27 h, md_k282 h, md_r28 h, md_k283 h, md_r29 h, md_k284 h, md_r30 h, md_k285 h, md_r31 h, md_k286 h, md_r33 h, md_k287 h, md_r34 h, md_k288 h, md_r35 h, md_k289 h, md_r36 h, md_k290 h, md_r37 h, md_k291 h, h1, hc, z_ii (show c < 2147483648 by omega) (show c < 2147483648 by omega), Nat.le_refl, coM]
        exact loop3 _ _
    · intro t q ht hx ih l6
      have hk1 : ¬ c ≤ t := by omega
      have h8 : 64 * l + t < 832 := by omega
      have h9 : 64 * p + t < 832 := by omega
      by_cases c1 : R (64 * l + t) = -1
      · rw [if_pos c1] at ih
        simp only [s197_30, s197_32, s197_33, s197_36, s197_39, s197_40, s197_43, s197_45, s197_46, s197_47, s197_49, s197_50, s197_51, s197_53, s197_55, s197_56, s197_59, s197_60, s197_63, s197_65, s197_66, s197_67, s197_69, s197_70, s197_71, s197_72, s197_75, s197_76, s197_79, s197_81, s197_82, s197_83, s197_84, s197_85, s197_86, s197_87, s197_89, hf_bd_v, hf_bd_n, hf_iv_i, hf_iv_l, hf_iv_a, hf_iv_n, hf_iv_2, z_lgl, z_lgg, z_lge, z_lgle, z_lgz, Option.getD_some, Option.isSome_some, ↓reduceIte, not_true_eq_false, not_false_eq_true, Option.toList_some, Option.toList_none, List.cons_append, List.nil_append, Nat.reduceAdd, Nat.add_assoc, ku_ne, ku_same, ne_eq, Nat.reduceEqDiff, reduceCtorEq, Nat.add_eq_left, Nat.left_eq_add, Nat.reduceEqDiff, q10, q_ne, true_or, or_true, md_k h, md_r16 h, md_k271 h, md_r17 h, md_k272 h, md_r18 h, md_k273 h, md_r19 h, md_k274 h, md_r20 h, md_k275 h, md_r21 h, md_k276 h, md_r22 h, md_k277 h, md_r23 h, md_k278 h, md_r24 h, md_k279 h, md_r25 h, md_k280 h, md_r26 h, md_k281 h, md_r27 h, md_k282 h, md_r28 h, md_k283 h, md_r29 h, md_k284 h, md_r30 h, md_k285 h, md_r31 h, md_k286 h, md_r33 h, md_k287 h, md_r34 h, md_k288 h, md_r35 h, md_k289 h, md_r36 h, md_k290 h, md_r37 h, md_k291 h, h1, h2, hc, z_ii (show c < 2147483648 by omega) (show t < 2147483648 by omega), hk1, z_1, ix64, z_in (show 64 * l + t < 2147483648 by omega), z_cl (show 64 * l + t < 2147483648 by omega), h8, decide_true, c1]
        rw [s197_92]
        exact ih _
      · rw [if_neg c1] at ih
        by_cases c2 : R (64 * p + t) = i
        · obtain ⟨z, z1, z2⟩ := (hR t ht).resolve_left c1
          rw [if_pos c2, z2, nI_clamp (by omega)] at ih
          have hnl : ¬ nI z = -1 := by rw [← z2]; exact c1
          simp only [s197_30, s197_32, s197_33, s197_36, s197_39, s197_40, s197_43, s197_45, s197_46, s197_47, s197_49, s197_50, s197_51, s197_53, s197_55, s197_56, s197_59, s197_60, s197_63, s197_65, s197_66, s197_67, s197_69, s197_70, s197_71, s197_72, s197_75, s197_76, s197_79, s197_81, s197_82, s197_83, s197_84, s197_85, s197_86, s197_87, s197_89, hf_bd_v, hf_bd_n, hf_iv_i, hf_iv_l, hf_iv_a, hf_iv_n, hf_iv_2, z_lgl, z_lgg, z_lge, z_lgle, z_lgz, Option.getD_some, Option.isSome_some, ↓reduceIte, not_true_eq_false, not_false_eq_true, Option.toList_some, Option.toList_none, List.cons_append, List.nil_append, Nat.reduceAdd, Nat.add_assoc, ku_ne, ku_same, ne_eq, Nat.reduceEqDiff, reduceCtorEq, Nat.add_eq_left, Nat.left_eq_add, Nat.reduceEqDiff, q10, q_ne, true_or, or_true, md_k h, md_r16 h, md_k271 h, md_r17 h, md_k272 h, md_r18 h, md_k273 h, md_r19 h, md_k274 h, md_r20 h, md_k275 h, md_r21 h, md_k276 h, md_r22 h, md_k277 h, md_r23 h, md_k278 h, md_r24 h, md_k279 h, md_r25 h, md_k280 h, md_r26 h, md_k281 h, md_r27 h, md_k282 h, md_r28 h, md_k283 h, md_r29 h, md_k284 h, md_r30 h, md_k285 h, md_r31 h, md_k286 h, md_r33 h, md_k287 h, md_r34 h, md_k288 h, md_r35 h, md_k289 h, md_r36 h, md_k290 h, md_r37 h, md_k291 h, h1, h2, hc, z_ii (show c < 2147483648 by omega) (show t < 2147483648 by omega), hk1, z_1, ix64, z_in (show 64 * l + t < 2147483648 by omega), z_cl (show 64 * l + t < 2147483648 by omega), h8, z_in (show 64 * p + t < 2147483648 by omega), z_cl (show 64 * p + t < 2147483648 by omega), h9, decide_true, z2, hnl, c2, hcl, z_in (show z < 2147483648 by omega), z_cl (show z < 2147483648 by omega), z1, kuw]
          rw [s197_92]
          exact ih _
        · rw [if_neg c2] at ih
          simp only [s197_30, s197_32, s197_33, s197_36, s197_39, s197_40, s197_43, s197_45, s197_46, s197_47, s197_49, s197_50, s197_51, s197_53, s197_55, s197_56, s197_59, s197_60, s197_63, s197_65, s197_66, s197_67, s197_69, s197_70, s197_71, s197_72, s197_75, s197_76, s197_79, s197_81, s197_82, s197_83, s197_84, s197_85, s197_86, s197_87, s197_89, hf_bd_v, hf_bd_n, hf_iv_i, hf_iv_l, hf_iv_a, hf_iv_n, hf_iv_2, z_lgl, z_lgg, z_lge, z_lgle, z_lgz, Option.getD_some, Option.isSome_some, ↓reduceIte, not_true_eq_false, not_false_eq_true, Option.toList_some, Option.toList_none, List.cons_append, List.nil_append, Nat.reduceAdd, Nat.add_assoc, ku_ne, ku_same, ne_eq, Nat.reduceEqDiff, reduceCtorEq, Nat.add_eq_left, Nat.left_eq_add, Nat.reduceEqDiff, q10, q_ne, true_or, or_true, md_k h, md_r16 h, md_k271 h, md_r17 h, md_k272 h, md_r18 h, md_k273 h, md_r19 h, md_k274 h, md_r20 h, md_k275 h, md_r21 h, md_k276 h, md_r22 h, md_k277 h, md_r23 h, md_k278 h, md_r24 h, md_k279 h, md_r25 h, md_k280 h, md_r26 h, md_k281 h, md_r27 h, md_k282 h, md_r28 h, md_k283 h, md_r29 h, md_k284 h, md_r30 h, md_k285 h, md_r31 h, md_k286 h, md_r33 h, md_k287 h, md_r34 h, md_k288 h, md_r35 h, md_k289 h, md_r36 h, md_k290 h, md_r37 h, md_k291 h, h1, h2, hc, z_ii (show c < 2147483648 by omega) (show t < 2147483648 by omega), hk1, z_1, ix64, z_in (show 64 * l + t < 2147483648 by omega), z_cl (show 64 * l + t < 2147483648 by omega), h8, z_in (show 64 * p + t < 2147483648 by omega), z_cl (show 64 * p + t < 2147483648 by omega), h9, decide_true, c1, c2]
          rw [s197_92]
          exact ih _
  -- the begin
  have loop1 : hf_rn 197 3 [some (.ref 270), some (.int (nI p)), some (.int i), some (.int (nI l)), some (.int (nI 0)), none, none] [] g (hf_w I 280 (fun j => if j < 0 then 0 else O j)) J = some (.inl (some (.int (coM (goO R O p i l c)))), g, hf_w I 280 (g1M R O p i l c).1, J) := by
    refine down (n := 64) (s := ()) (f := fun _ _ => ()) (fun t _ => hf_rn 197 3 [some (.ref 270), some (.int (nI p)), some (.int i), some (.int (nI l)), some (.int (nI t)), none, none] [] g (hf_w I 280 (fun j => if j < t then 0 else O j)) J = some (.inl (some (.int (coM (goO R O p i l c)))), g, hf_w I 280 (g1M R O p i l c).1, J)) ?_ ?_
    · have h64 : (64 : Int32) ≤ nI 64 := by decide
      simp only [s197_3, s197_5, s197_7, s197_10, s197_11, s197_14, s197_16, s197_17, s197_18, s197_24, s197_25, s197_27, s197_28, hf_bd_v, hf_bd_n, hf_iv_i, hf_iv_l, hf_iv_a, hf_iv_n, hf_iv_2, z_lgl, z_lgg, z_lge, z_lgle, z_lgz, Option.getD_some, Option.isSome_some, ↓reduceIte, not_true_eq_false, not_false_eq_true, Option.toList_some, Option.toList_none, List.cons_append, List.nil_append, Nat.reduceAdd, Nat.add_assoc, ku_ne, ku_same, ne_eq, Nat.reduceEqDiff, reduceCtorEq, Nat.add_eq_left, Nat.left_eq_add, Nat.reduceEqDiff, q10, q_ne, true_or, or_true, h64]
      exact loop2 _
    · intro t _ ht _ ih
      have h64 : ((64 : Int32) ≤ nI t) = (64 ≤ t) := z_ii (a := 64) (by decide) (by omega)
      have hk1 : ¬ 64 ≤ t := by omega
      have e : up (fun j => if j < t then (0 : Int32) else O j) t 0 = fun j => if j < t + 1 then (0 : Int32) else O j := by
        funext y
        unfold up
        by_cases h1 : y = t
        · subst h1; simp
        · simp only [h1, if_false, show (y < t + 1) = (y < t) from by apply propext; omega]
      simp only [s197_3, s197_5, s197_7, s197_10, s197_11, s197_14, s197_16, s197_17, s197_18, hf_bd_v, hf_bd_n, hf_iv_i, hf_iv_l, hf_iv_a, hf_iv_n, hf_iv_2, z_lgl, z_lgg, z_lge, z_lgle, z_lgz, Option.getD_some, Option.isSome_some, ↓reduceIte, not_true_eq_false, not_false_eq_true, Option.toList_some, Option.toList_none, List.cons_append, List.nil_append, Nat.reduceAdd, Nat.add_assoc, ku_ne, ku_same, ne_eq, Nat.reduceEqDiff, reduceCtorEq, Nat.add_eq_left, Nat.left_eq_add, Nat.reduceEqDiff, q10, q_ne, true_or, or_true, md_k h, md_r16 h, md_k271 h, md_r17 h, md_k272 h, md_r18 h, md_k273 h, md_r19 h, md_k274 h, md_r20 h, md_k275 h, md_r21 h, md_k276 h, md_r22 h, md_k277 h, md_r23 h, md_k278 h, md_r24 h, md_k279 h, md_r25 h, md_k280 h, md_r26 h, md_k281 h, md_r27 h, md_k282 h, md_r28 h, md_k283 h, md_r29 h, md_k284 h, md_r30 h, md_k285 h, md_r31 h, md_k286 h, md_r33 h, md_k287 h, md_r34 h, md_k288 h, md_r35 h, md_k289 h, md_r36 h, md_k290 h, md_r37 h, md_k291 h, h64, hk1, z_1, z_in (show t < 2147483648 by omega), z_cl (show t < 2147483648 by omega), ht, decide_true, kuw, e]
      rw [s197_21]
      exact ih
  have e0 : hf_w I 280 (fun j => if j < 0 then 0 else O j) = I := kw_id (by funext y; rw [hO]; simp)
  rw [e0] at loop1
  simp only [s197_0, s197_1, hf_bd_v, hf_bd_n, hf_iv_i, hf_iv_l, hf_iv_a, hf_iv_n, hf_iv_2, z_lgl, z_lgg, z_lge, z_lgle, z_lgz, Option.getD_some, Option.isSome_some, ↓reduceIte, not_true_eq_false, not_false_eq_true, Option.toList_some, Option.toList_none, List.cons_append, List.nil_append, Nat.reduceAdd, Nat.add_assoc, ku_ne, ku_same, ne_eq, Nat.reduceEqDiff, reduceCtorEq, Nat.add_eq_left, Nat.left_eq_add, Nat.reduceEqDiff, q10, q_ne, true_or, or_true]
  exact loop1
theorem m_nextOf (h : Md g) (hM : Mdp I c P cn) (hp : p < P) : ∃ F, s64 (I 280) F ∧ hf_rn 198 0 [some (.ref 270), some (.int (nI p)), some (.int (nI k)), none, none] [] g I J = some (.inl (some (.int (cdI (nxO (I 275) (I 280) P c p k)))), g, hf_w I 280 F, J) := by
  obtain ⟨hc, hc2, hP1, hP2, hM5, hM6⟩ := id hM
  have h1 : ∀ F : Nat → Int32, hf_w I 280 F 270 = I 270 := fun F => kw_ne (by decide)
  have h2 : ∀ F : Nat → Int32, hf_w I 280 F 275 = I 275 := fun F => kw_ne (by decide)
  have a1 : nI p + 1 = nI (p + 1) := z_1 p
  have a3 : nI p + 3 = nI (p + 3) := by rw [show (3 : Int32) = nI 3 from rfl, nI_add]
  have lt1 : ∀ a b : Nat, a < 100 → b < 100 → (nI a ≤ nI b) = (a ≤ b) := fun a b ha hb => z_ii (by omega) (by omega)
  have l1 := lt1 P (p + 1) (by omega) (by omega)
  have l2 := lt1 P (p + 2) (by omega) (by omega)
  have l4 := lt1 P (p + 3) (by omega) (by omega)
  have l5 := lt1 (p + 3) (p + 1) (by omega) (by omega)
  have l6 := lt1 (p + 3) (p + 2) (by omega) (by omega)
  have l7 := lt1 (p + 3) (p + 3) (by omega) (by omega)
  have q1 : ¬ p + 3 ≤ p + 1 := by omega
  have q2 : ¬ p + 3 ≤ p + 2 := by omega
  have hx : ∀ f a, (100 : Int32) * nI a + nI f = nI (100 * a + f) := fun f a => by rw [show (100 : Int32) = nI 100 from rfl, nI_mul, nI_add]
  have hnl : ∀ f, f < 64 → ¬ nI f = -1 := fun f hf => by rw [nI_iZ, show (-1 : Int32) = iZ (-1) from rfl, iZ_eq (iRs (by omega) (by omega)) (iRs (by omega) (by omega))]; omega
  unfold nxO
  by_cases c1 : p + 1 < P
  · have d1 : ¬ P ≤ p + 1 := by omega
    have hg := m_goesIn (J := J) (i := nI k) h hM hp c1
    have hs := g1M_out (O := I 280) (p := p) (i := nI k) (mdp_64 hM c1) c (Nat.le_refl _)
    rw [if_pos c1]
    cases e : goO (I 275) (I 280) p (nI k) (p + 1) c with
    | some f =>
      rw [e] at hg
      have hf := goO_lt e
      refine ⟨_, hs, ?_⟩
      simp only [s198_0, s198_1, s198_2, s198_3, s198_4, s198_5, s198_6, s198_9, s198_12, s198_13, s198_14, s198_15, s198_16, s198_19, s198_20, s198_21, s198_22, s198_23, s198_26, s198_28, s198_30, s198_31, s198_34, s198_36, s198_37, s198_38, s198_40, s198_41, s198_42, s198_48, s198_49, hf_bd_v, hf_bd_n, hf_iv_i, hf_iv_l, hf_iv_a, hf_iv_n, hf_iv_2, z_lgl, z_lgg, z_lge, z_lgle, z_lgz, Option.getD_some, Option.isSome_some, ↓reduceIte, not_true_eq_false, not_false_eq_true, Option.toList_some, Option.toList_none, List.cons_append, List.nil_append, Nat.reduceAdd, Nat.add_assoc, ku_ne, ku_same, ne_eq, Nat.reduceEqDiff, reduceCtorEq, Nat.add_eq_left, Nat.left_eq_add, Nat.reduceEqDiff, q10, q_ne, true_or, or_true, md_k h, md_r16 h, md_k271 h, md_r17 h, md_k272 h, md_r18 h, md_k273 h, md_r19 h, md_k274 h, md_r20 h, md_k275 h, md_r21 h, md_k276 h, md_r22 h, md_k277 h, md_r23 h, md_k278 h, md_r24 h, md_k279 h, md_r25 h, md_k280 h, md_r26 h, md_k281 h, md_r27 h, md_k282 h, md_r28 h, md_k283 h, md_r29 h, md_k284 h, md_r30 h, md_k285 h, md_r31 h, md_k286 h, md_r33 h, md_k287 h, md_r34 h, md_k288 h, md_r35 h, md_k289 h, md_r36 h, md_k290 h, md_r37 h, md_k291 h, h.1, hP1, z_1, a3, l1, d1, l5, q1, hg, coM, hnl f hf, hx, cdI]
    | none =>
      rw [e] at hg
      by_cases c2 : p + 2 < P
      · have d2 : ¬ P ≤ p + 2 := by omega
        generalize (g1M (I 275) (I 280) p (nI k) (p + 1) c).1 = F1 at *
        have hg2 := m_goesIn (J := J) (i := nI k) h (mdp_sh (F := F1) hM) hp c2
        have hs2 := g1M_out (O := F1) (p := p) (i := nI k) (mdp_64 hM c2) c (Nat.le_refl _)
        rw [h2, kw_row, kw_w, goO_s hs] at hg2
        have hs3 : s64 (I 280) (g1M (I 275) F1 p (nI k) (p + 2) c).1 := fun j hj => (hs2 j hj).trans (hs j hj)
        generalize (g1M (I 275) F1 p (nI k) (p + 2) c).1 = F2 at *
        rw [if_pos c2]
        cases e2 : goO (I 275) (I 280) p (nI k) (p + 2) c with
        | some f =>
          rw [e2] at hg2
          have hf := goO_lt e2
          refine ⟨F2, hs3, ?_⟩
          simp only [s198_0, s198_1, s198_2, s198_3, s198_4, s198_5, s198_6, s198_9, s198_12, s198_13, s198_14, s198_15, s198_16, s198_19, s198_20, s198_21, s198_22, s198_23, s198_26, s198_28, s198_30, s198_31, s198_34, s198_36, s198_37, s198_38, s198_40, s198_41, s198_42, hf_bd_v, hf_bd_n, hf_iv_i, hf_iv_l, hf_iv_a, hf_iv_n, hf_iv_2, z_lgl, z_lgg, z_lge, z_lgle, z_lgz, Option.getD_some, Option.isSome_some, ↓reduceIte, not_true_eq_false, not_false_eq_true, Option.toList_some, Option.toList_none, List.cons_append, List.nil_append, Nat.reduceAdd, Nat.add_assoc, ku_ne, ku_same, ne_eq, Nat.reduceEqDiff, reduceCtorEq, Nat.add_eq_left, Nat.left_eq_add, Nat.reduceEqDiff, q10, q_ne, true_or, or_true, md_k h, md_r16 h, md_k271 h, md_r17 h, md_k272 h, md_r18 h, md_k273 h, md_r19 h, md_k274 h, md_r20 h, md_k275 h, md_r21 h, md_k276 h, md_r22 h, md_k277 h, md_r23 h, md_k278 h, md_r24 h, md_k279 h, md_r25 h, md_k280 h, md_r26 h, md_k281 h, md_r27 h, md_k282 h, md_r28 h, md_k283 h, md_r29 h, md_k284 h, md_r30 h, md_k285 h, md_r31 h, md_k286 h, md_r33 h, md_k287 h, md_r34 h, md_k288 h, md_r35 h, md_k289 h, md_r36 h, md_k290 h, md_r37 h, md_k291 h, h.1, hP1, z_1, a3, l1, d1, l5, q1, hg, coM]
          simp only [s198_0, s198_1, s198_2, s198_3, s198_4, s198_5, s198_6, s198_9, s198_12, s198_13, s198_14, s198_15, s198_16, s198_19, s198_20, s198_21, s198_22, s198_23, s198_26, s198_28, s198_30, s198_31, s198_34, s198_36, s198_37, s198_38, s198_40, s198_41, s198_42, s198_45, s198_48, s198_49, hf_bd_v, hf_bd_n, hf_iv_i, hf_iv_l, hf_iv_a, hf_iv_n, hf_iv_2, z_lgl, z_lgg, z_lge, z_lgle, z_lgz, Option.getD_some, Option.isSome_some, ↓reduceIte, not_true_eq_false, not_false_eq_true, Option.toList_some, Option.toList_none, List.cons_append, List.nil_append, Nat.reduceAdd, Nat.add_assoc, ku_ne, ku_same, ne_eq, Nat.reduceEqDiff, reduceCtorEq, Nat.add_eq_left, Nat.left_eq_add, Nat.reduceEqDiff, q10, q_ne, true_or, or_true, md_k h, md_r16 h, md_k271 h, md_r17 h, md_k272 h, md_r18 h, md_k273 h, md_r19 h, md_k274 h, md_r20 h, md_k275 h, md_r21 h, md_k276 h, md_r22 h, md_k277 h, md_r23 h, md_k278 h, md_r24 h, md_k279 h, md_r25 h, md_k280 h, md_r26 h, md_k281 h, md_r27 h, md_k282 h, md_r28 h, md_k283 h, md_r29 h, md_k284 h, md_r30 h, md_k285 h, md_r31 h, md_k286 h, md_r33 h, md_k287 h, md_r34 h, md_k288 h, md_r35 h, md_k289 h, md_r36 h, md_k290 h, md_r37 h, md_k291 h, h.1, h1, hP1, z_1, a3, l2, d2, l6, q2, hg2, coM, hnl f hf, hx, cdI]
        | none =>
          rw [e2] at hg2
          refine ⟨F2, hs3, ?_⟩
          simp only [s198_0, s198_1, s198_2, s198_3, s198_4, s198_5, s198_6, s198_9, s198_12, s198_13, s198_14, s198_15, s198_16, s198_19, s198_20, s198_21, s198_22, s198_23, s198_26, s198_28, s198_30, s198_31, s198_34, s198_36, s198_37, s198_38, s198_40, s198_41, s198_42, hf_bd_v, hf_bd_n, hf_iv_i, hf_iv_l, hf_iv_a, hf_iv_n, hf_iv_2, z_lgl, z_lgg, z_lge, z_lgle, z_lgz, Option.getD_some, Option.isSome_some, ↓reduceIte, not_true_eq_false, not_false_eq_true, Option.toList_some, Option.toList_none, List.cons_append, List.nil_append, Nat.reduceAdd, Nat.add_assoc, ku_ne, ku_same, ne_eq, Nat.reduceEqDiff, reduceCtorEq, Nat.add_eq_left, Nat.left_eq_add, Nat.reduceEqDiff, q10, q_ne, true_or, or_true, md_k h, md_r16 h, md_k271 h, md_r17 h, md_k272 h, md_r18 h, md_k273 h, md_r19 h, md_k274 h, md_r20 h, md_k275 h, md_r21 h, md_k276 h, md_r22 h, md_k277 h, md_r23 h, md_k278 h, md_r24 h, md_k279 h, md_r25 h, md_k280 h, md_r26 h, md_k281 h, md_r27 h, md_k282 h, md_r28 h, md_k283 h, md_r29 h, md_k284 h, md_r30 h, md_k285 h, md_r31 h, md_k286 h, md_r33 h, md_k287 h, md_r34 h, md_k288 h, md_r35 h, md_k289 h, md_r36 h, md_k290 h, md_r37 h, md_k291 h, h.1, hP1, z_1, a3, l1, d1, l5, q1, hg, coM]
          rw [s198_45]
          simp only [s198_0, s198_1, s198_2, s198_3, s198_4, s198_5, s198_6, s198_9, s198_12, s198_13, s198_14, s198_15, s198_16, s198_19, s198_20, s198_21, s198_22, s198_23, s198_26, s198_28, s198_30, s198_31, s198_34, s198_36, s198_37, s198_38, s198_40, s198_41, s198_42, s198_48, s198_49, hf_bd_v, hf_bd_n, hf_iv_i, hf_iv_l, hf_iv_a, hf_iv_n, hf_iv_2, z_lgl, z_lgg, z_lge, z_lgle, z_lgz, Option.getD_some, Option.isSome_some, ↓reduceIte, not_true_eq_false, not_false_eq_true, Option.toList_some, Option.toList_none, List.cons_append, List.nil_append, Nat.reduceAdd, Nat.add_assoc, ku_ne, ku_same, ne_eq, Nat.reduceEqDiff, reduceCtorEq, Nat.add_eq_left, Nat.left_eq_add, Nat.reduceEqDiff, q10, q_ne, true_or, or_true, md_k h, md_r16 h, md_k271 h, md_r17 h, md_k272 h, md_r18 h, md_k273 h, md_r19 h, md_k274 h, md_r20 h, md_k275 h, md_r21 h, md_k276 h, md_r22 h, md_k277 h, md_r23 h, md_k278 h, md_r24 h, md_k279 h, md_r25 h, md_k280 h, md_r26 h, md_k281 h, md_r27 h, md_k282 h, md_r28 h, md_k283 h, md_r29 h, md_k284 h, md_r30 h, md_k285 h, md_r31 h, md_k286 h, md_r33 h, md_k287 h, md_r34 h, md_k288 h, md_r35 h, md_k289 h, md_r36 h, md_k290 h, md_r37 h, md_k291 h, h.1, h1, hP1, z_1, a3, l2, d2, l6, q2, hg2, coM]
          rw [s198_45]
          by_cases d3 : P ≤ p + 3
          · simp only [s198_0, s198_1, s198_2, s198_3, s198_4, s198_5, s198_6, s198_9, s198_12, s198_13, s198_14, s198_15, s198_16, s198_19, s198_20, s198_21, s198_22, s198_23, s198_26, s198_28, s198_30, s198_31, s198_34, s198_36, s198_37, s198_38, s198_40, s198_41, s198_42, s198_48, s198_49, hf_bd_v, hf_bd_n, hf_iv_i, hf_iv_l, hf_iv_a, hf_iv_n, hf_iv_2, z_lgl, z_lgg, z_lge, z_lgle, z_lgz, Option.getD_some, Option.isSome_some, ↓reduceIte, not_true_eq_false, not_false_eq_true, Option.toList_some, Option.toList_none, List.cons_append, List.nil_append, Nat.reduceAdd, Nat.add_assoc, ku_ne, ku_same, ne_eq, Nat.reduceEqDiff, reduceCtorEq, Nat.add_eq_left, Nat.left_eq_add, Nat.reduceEqDiff, q10, q_ne, true_or, or_true, md_k h, md_r16 h, md_k271 h, md_r17 h, md_k272 h, md_r18 h, md_k273 h, md_r19 h, md_k274 h, md_r20 h, md_k275 h, md_r21 h, md_k276 h, md_r22 h, md_k277 h, md_r23 h, md_k278 h, md_r24 h, md_k279 h, md_r25 h, md_k280 h, md_r26 h, md_k281 h, md_r27 h, md_k282 h, md_r28 h, md_k283 h, md_r29 h, md_k284 h, md_r30 h, md_k285 h, md_r31 h, md_k286 h, md_r33 h, md_k287 h, md_r34 h, md_k288 h, md_r35 h, md_k289 h, md_r36 h, md_k290 h, md_r37 h, md_k291 h, h1, hP1, z_1, l4, d3, cdI]
          · simp only [s198_0, s198_1, s198_2, s198_3, s198_4, s198_5, s198_6, s198_9, s198_12, s198_13, s198_14, s198_15, s198_16, s198_19, s198_20, s198_21, s198_22, s198_23, s198_26, s198_28, s198_30, s198_31, s198_34, s198_36, s198_37, s198_38, s198_40, s198_41, s198_42, s198_48, s198_49, hf_bd_v, hf_bd_n, hf_iv_i, hf_iv_l, hf_iv_a, hf_iv_n, hf_iv_2, z_lgl, z_lgg, z_lge, z_lgle, z_lgz, Option.getD_some, Option.isSome_some, ↓reduceIte, not_true_eq_false, not_false_eq_true, Option.toList_some, Option.toList_none, List.cons_append, List.nil_append, Nat.reduceAdd, Nat.add_assoc, ku_ne, ku_same, ne_eq, Nat.reduceEqDiff, reduceCtorEq, Nat.add_eq_left, Nat.left_eq_add, Nat.reduceEqDiff, q10, q_ne, true_or, or_true, md_k h, md_r16 h, md_k271 h, md_r17 h, md_k272 h, md_r18 h, md_k273 h, md_r19 h, md_k274 h, md_r20 h, md_k275 h, md_r21 h, md_k276 h, md_r22 h, md_k277 h, md_r23 h, md_k278 h, md_r24 h, md_k279 h, md_r25 h, md_k280 h, md_r26 h, md_k281 h, md_r27 h, md_k282 h, md_r28 h, md_k283 h, md_r29 h, md_k284 h, md_r30 h, md_k285 h, md_r31 h, md_k286 h, md_r33 h, md_k287 h, md_r34 h, md_k288 h, md_r35 h, md_k289 h, md_r36 h, md_k290 h, md_r37 h, md_k291 h, h1, hP1, z_1, a3, l4, l7, d3, Nat.le_refl, cdI]
      · have d2 : P ≤ p + 2 := by omega
        rw [if_neg c2]
        refine ⟨_, hs, ?_⟩
        simp only [s198_0, s198_1, s198_2, s198_3, s198_4, s198_5, s198_6, s198_9, s198_12, s198_13, s198_14, s198_15, s198_16, s198_19, s198_20, s198_21, s198_22, s198_23, s198_26, s198_28, s198_30, s198_31, s198_34, s198_36, s198_37, s198_38, s198_40, s198_41, s198_42, hf_bd_v, hf_bd_n, hf_iv_i, hf_iv_l, hf_iv_a, hf_iv_n, hf_iv_2, z_lgl, z_lgg, z_lge, z_lgle, z_lgz, Option.getD_some, Option.isSome_some, ↓reduceIte, not_true_eq_false, not_false_eq_true, Option.toList_some, Option.toList_none, List.cons_append, List.nil_append, Nat.reduceAdd, Nat.add_assoc, ku_ne, ku_same, ne_eq, Nat.reduceEqDiff, reduceCtorEq, Nat.add_eq_left, Nat.left_eq_add, Nat.reduceEqDiff, q10, q_ne, true_or, or_true, md_k h, md_r16 h, md_k271 h, md_r17 h, md_k272 h, md_r18 h, md_k273 h, md_r19 h, md_k274 h, md_r20 h, md_k275 h, md_r21 h, md_k276 h, md_r22 h, md_k277 h, md_r23 h, md_k278 h, md_r24 h, md_k279 h, md_r25 h, md_k280 h, md_r26 h, md_k281 h, md_r27 h, md_k282 h, md_r28 h, md_k283 h, md_r29 h, md_k284 h, md_r30 h, md_k285 h, md_r31 h, md_k286 h, md_r33 h, md_k287 h, md_r34 h, md_k288 h, md_r35 h, md_k289 h, md_r36 h, md_k290 h, md_r37 h, md_k291 h, h.1, hP1, z_1, a3, l1, d1, l5, q1, hg, coM]
        rw [s198_45]
        simp only [s198_0, s198_1, s198_2, s198_3, s198_4, s198_5, s198_6, s198_9, s198_12, s198_13, s198_14, s198_15, s198_16, s198_19, s198_20, s198_21, s198_22, s198_23, s198_26, s198_28, s198_30, s198_31, s198_34, s198_36, s198_37, s198_38, s198_40, s198_41, s198_42, s198_48, s198_49, hf_bd_v, hf_bd_n, hf_iv_i, hf_iv_l, hf_iv_a, hf_iv_n, hf_iv_2, z_lgl, z_lgg, z_lge, z_lgle, z_lgz, Option.getD_some, Option.isSome_some, ↓reduceIte, not_true_eq_false, not_false_eq_true, Option.toList_some, Option.toList_none, List.cons_append, List.nil_append, Nat.reduceAdd, Nat.add_assoc, ku_ne, ku_same, ne_eq, Nat.reduceEqDiff, reduceCtorEq, Nat.add_eq_left, Nat.left_eq_add, Nat.reduceEqDiff, q10, q_ne, true_or, or_true, md_k h, md_r16 h, md_k271 h, md_r17 h, md_k272 h, md_r18 h, md_k273 h, md_r19 h, md_k274 h, md_r20 h, md_k275 h, md_r21 h, md_k276 h, md_r22 h, md_k277 h, md_r23 h, md_k278 h, md_r24 h, md_k279 h, md_r25 h, md_k280 h, md_r26 h, md_k281 h, md_r27 h, md_k282 h, md_r28 h, md_k283 h, md_r29 h, md_k284 h, md_r30 h, md_k285 h, md_r31 h, md_k286 h, md_r33 h, md_k287 h, md_r34 h, md_k288 h, md_r35 h, md_k289 h, md_r36 h, md_k290 h, md_r37 h, md_k291 h, h1, hP1, z_1, l2, d2, cdI]
  · have d1 : P ≤ p + 1 := by omega
    rw [if_neg c1]
    refine ⟨I 280, fun j _ => rfl, ?_⟩
    rw [kw_self]
    simp only [s198_0, s198_1, s198_2, s198_3, s198_4, s198_5, s198_6, s198_9, s198_12, s198_13, s198_14, s198_15, s198_16, s198_19, s198_20, s198_21, s198_22, s198_23, s198_26, s198_28, s198_30, s198_31, s198_34, s198_36, s198_37, s198_38, s198_40, s198_41, s198_42, s198_48, s198_49, hf_bd_v, hf_bd_n, hf_iv_i, hf_iv_l, hf_iv_a, hf_iv_n, hf_iv_2, z_lgl, z_lgg, z_lge, z_lgle, z_lgz, Option.getD_some, Option.isSome_some, ↓reduceIte, not_true_eq_false, not_false_eq_true, Option.toList_some, Option.toList_none, List.cons_append, List.nil_append, Nat.reduceAdd, Nat.add_assoc, ku_ne, ku_same, ne_eq, Nat.reduceEqDiff, reduceCtorEq, Nat.add_eq_left, Nat.left_eq_add, Nat.reduceEqDiff, q10, q_ne, true_or, or_true, md_k h, md_r16 h, md_k271 h, md_r17 h, md_k272 h, md_r18 h, md_k273 h, md_r19 h, md_k274 h, md_r20 h, md_k275 h, md_r21 h, md_k276 h, md_r22 h, md_k277 h, md_r23 h, md_k278 h, md_r24 h, md_k279 h, md_r25 h, md_k280 h, md_r26 h, md_k281 h, md_r27 h, md_k282 h, md_r28 h, md_k283 h, md_r29 h, md_k284 h, md_r30 h, md_k285 h, md_r31 h, md_k286 h, md_r33 h, md_k287 h, md_r34 h, md_k288 h, md_r35 h, md_k289 h, md_r36 h, md_k290 h, md_r37 h, md_k291 h, hP1, z_1, l1, d1, cdI]
end
