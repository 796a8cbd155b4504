/-! THE MODEL: from what, branches, trees -/
def cdO (o : Option (Nat × Nat)) : Int32 := cdI o
/-- what comes from one earlier picture -/
def mfM (nx : Nat → Nat → Option (Nat × Nat)) (co : Nat → Nat → Int32) (i k e : Nat) (p : Option (Nat × Nat) × Int32) (t : Nat) : Option (Nat × Nat) × Int32 :=
  it t p fun o p => if (if nx e o = some (i, k) then co e o else 0) ≤ p.2 then p else (some (e, o), if nx e o = some (i, k) then co e o else 0)
def frM (cn : Nat → Nat) (nx : Nat → Nat → Option (Nat × Nat)) (co : Nat → Nat → Int32) (i k : Nat) : Option (Nat × Nat) :=
  if 1 ≤ i then (if 2 ≤ i then (mfM nx co i k (i - 2) (mfM nx co i k (i - 1) (none, 0) (cn (i - 1))) (cn (i - 2))).1 else (mfM nx co i k (i - 1) (none, 0) (cn (i - 1))).1) else none
theorem mfM_k {cn : Nat → Nat} {nx : Nat → Nat → Option (Nat × Nat)} {co : Nat → Nat → Int32} {i k e : Nat} (p : Option (Nat × Nat) × Int32) : ∀ t, t ≤ cn e → (mfM nx co i k e p t).1 = p.1 ∨ ∃ o, o < cn e ∧ (mfM nx co i k e p t).1 = some (e, o) := by
  intro t
  induction t with
  | zero => intro _; exact Or.inl rfl
  | succ t ih =>
    intro ht
    have hs : mfM nx co i k e p (t + 1) = if (if nx e t = some (i, k) then co e t else 0) ≤ (mfM nx co i k e p t).2 then mfM nx co i k e p t else (some (e, t), if nx e t = some (i, k) then co e t else 0) := rfl
    rw [hs]
    generalize (if nx e t = some (i, k) then co e t else 0) = z
    split
    · exact ih (by omega)
    · exact Or.inr ⟨t, by omega, rfl⟩
theorem frM_k {cn : Nat → Nat} {nx : Nat → Nat → Option (Nat × Nat)} {co : Nat → Nat → Int32} {i k j x : Nat} (h : frM cn nx co i k = some (j, x)) : j < i ∧ x < cn j := by
  unfold frM at h
  split at h
  · split at h
    · rcases @mfM_k cn nx co i k (i - 2) (mfM nx co i k (i - 1) (none, 0) (cn (i - 1))) _ (Nat.le_refl _) with h1 | ⟨o, h1, h2⟩
      · rw [h1] at h
        rcases @mfM_k cn nx co i k (i - 1) (none, 0) _ (Nat.le_refl _) with h3 | ⟨o, h3, h4⟩
        · rw [h3] at h; cases h
        · rw [h4] at h; cases h; exact ⟨by omega, h3⟩
      · rw [h2] at h; cases h; exact ⟨by omega, h1⟩
    · rcases @mfM_k cn nx co i k (i - 1) (none, 0) _ (Nat.le_refl _) with h3 | ⟨o, h3, h4⟩
      · rw [h3] at h; cases h
      · rw [h4] at h; cases h; exact ⟨by omega, h3⟩
  · cases h
/-- how long a branch is -/
def chN (fr : Nat → Nat → Option (Nat × Nat)) : Nat → Nat → Nat → Nat
  | 0, _, _ => 0
  | n + 1, e, o => match fr e o with
    | none => 1
    | some (j, x) => 1 + chN fr n j x
section
variable {g : hf_G} {I : hf_I} {J : hf_J} {a b c k l m n s p q cl P : Nat} {u v w : Int64} {i j x y : Int32} {F H K B : Nat → Int32} {cn : Nat → Nat}
theorem s64_t {O F H : Nat → Int32} (h1 : s64 O F) (h2 : s64 F H) : s64 O H := fun j hj => (h2 j hj).trans (h1 j hj)
theorem s64_r {O : Nat → Int32} : s64 O O := fun _ _ => rfl
theorem coI_w : coI (hf_w I 280 F) p i q j c = coI I p i q j c := by
  unfold coI
  rw [kw_ne (show 275 ≠ 280 by decide)]
def nxM (I : hf_I) (P c : Nat) (e o : Nat) : Option (Nat × Nat) := nxO (I 275) (I 280) P c e o
theorem nxM_s (h : s64 (I 280) F) : nxM (hf_w I 280 F) P c = nxM I P c := by
  funext e o
  unfold nxM
  rw [kw_row, kw_ne (show 275 ≠ 280 by decide), nxO_s h]
theorem m_next (h : Md g) (hM : Mdp I c P cn) (hp : p < P) (hF : s64 (I 280) F) : ∃ H, s64 (I 280) H ∧ hf_rn 198 0 [some (.ref 270), some (.int (nI p)), some (.int (nI k)), none, none] [] g (hf_w I 280 F) J = some (.inl (some (.int (cdI (nxM I P c p k)))), g, hf_w I 280 H, J) := by
  obtain ⟨H, h1, h2⟩ := m_nextOf (J := J) (k := k) h (mdp_sh (F := F) hM) hp
  rw [kw_row] at h1
  refine ⟨H, s64_t hF h1, ?_⟩
  rw [h2, kw_w]
  have := congrFun (congrFun (@nxM_s I c P F hF) p) k
  unfold nxM at this ⊢
  rw [this]
theorem cdI_nl {f : Option (Nat × Nat)} (h : ∀ j x, f = some (j, x) → j < 12 ∧ x < 64) : (cdI f = -1) = (f = none) := by
  match f, h with
  | none, _ => simp [cdI]
  | some (a, b), hx =>
    obtain ⟨p, q⟩ := hx a b rfl
    rw [cdI, nI_iZ, show (-1 : Int32) = iZ (-1) from rfl, iZ_eq (iRs (by omega) (by omega)) (iRs (by omega) (by omega))]
    simp
    omega
theorem nx100 (k m : Nat) : (100 : Int32) * nI k + nI m = nI (100 * k + m) := by rw [show (100 : Int32) = nI 100 from rfl, nI_mul, nI_add]
def cmM (I : hf_I) (c i k : Nat) (e o : Nat) : Int32 := coI I e (nI o) i (nI k) c
theorem m_fromOf (h : Md g) (hM : Mdp I c P cn) (hp : p < P) (hk : k < 64) (hF : s64 (I 280) F) : ∃ H, s64 (I 280) H ∧ hf_rn 201 0 [some (.ref 270), some (.int (nI p)), some (.int (nI k)), none, none, none, none, none] [] g (hf_w I 280 F) J = some (.inl (some (.int (cdI (frM cn (nxM I P c) (cmM I c p k) p k)))), g, hf_w I 280 H, J) := by
  obtain ⟨hc, hc2, hP1, hP2, hM5, hM6⟩ := id hM
  have h1 : ∀ F : Nat → Int32, hf_w I 280 F 270 = I 270 := fun F => kw_ne (by decide)
  have h2 : ∀ F : Nat → Int32, hf_w I 280 F 276 = I 276 := fun F => kw_ne (by decide)
  have inner : ∀ (e : Nat) (q : Option (Nat × Nat) × Int32) (V : Int32), e < p →
      (∀ F l6 l7, s64 (I 280) F → ∃ H, s64 (I 280) H ∧ hf_rn 201 10 [some (.ref 270), some (.int (nI p)), some (.int (nI k)), some (.int (cdI (mfM (nxM I P c) (cmM I c p k) p k e q (cn e)).1)), some (.int (mfM (nxM I P c) (cmM I c p k) p k e q (cn e)).2), some (.int (nI e - 1)), l6, l7] [] g (hf_w I 280 F) J = some (.inl (some (.int V)), g, hf_w I 280 H, J)) →
      ∀ F l7, s64 (I 280) F → ∃ H, s64 (I 280) H ∧ hf_rn 201 26 [some (.ref 270), some (.int (nI p)), some (.int (nI k)), some (.int (cdI q.1)), some (.int q.2), some (.int (nI e)), some (.int (nI 0)), l7] [] g (hf_w I 280 F) J = some (.inl (some (.int V)), g, hf_w I 280 H, J) := by
    intro e q V he hR
    obtain ⟨hc64, hha⟩ := hM5 e (by omega)
    refine down (n := cn e) (s := q) (f := fun o r => if (if nxM I P c e o = some (p, k) then cmM I c p k e o else 0) ≤ r.2 then r else (some (e, o), if nxM I P c e o = some (p, k) then cmM I c p k e o else 0)) (fun t q => ∀ F l7, s64 (I 280) F → ∃ H, s64 (I 280) H ∧ hf_rn 201 26 [some (.ref 270), some (.int (nI p)), some (.int (nI k)), some (.int (cdI q.1)), some (.int q.2), some (.int (nI e)), some (.int (nI t)), l7] [] g (hf_w I 280 F) J = some (.inl (some (.int V)), g, hf_w I 280 H, J)) ?_ ?_
    · intro F l7 hF
      obtain ⟨H, x1, x2⟩ := hR F (some (.int (nI (cn e)))) l7 hF
      refine ⟨H, x1, ?_⟩
      have hme : (-1 : Int32) = iZ (-1) := rfl
      simp only [s201_26, s201_28, s201_29, s201_32, s201_34, s201_35, s201_38, s201_39, s201_41, s201_43, s201_46, s201_48, s201_49, s201_50, s201_51, s201_52, s201_55, s201_56, s201_58, s201_60, s201_61, s201_62, s201_65, s201_68, s201_69, s201_71, s201_73, s201_75, s201_78, s201_80, s201_82, s201_83, s201_85, s201_86, s201_89, s201_90, s201_91, s201_93, s201_95, s201_98, s201_100, s201_103, s201_105, s201_107, s201_110, s201_113, hf_bd_v, hf_bd_n, hf_iv_i, hf_iv_l, hf_iv_a, hf_iv_n, hf_iv_2, z_lgl, z_lgg, z_lge, z_lgle, z_lgz, Option.getD_some, Option.isSome_some, ↓reduceIte, not_true_eq_false, not_false_eq_true, Option.toList_some, Option.toList_none, List.cons_append, List.nil_append, Nat.reduceAdd, Nat.add_assoc, ku_ne, ku_same, ne_eq, Nat.reduceEqDiff, reduceCtorEq, Nat.add_eq_left, Nat.left_eq_add, Nat.reduceEqDiff, q10, q_ne, true_or, or_true, md_k h, md_r16 h, md_k271 h, md_r17 h, md_k272 h, md_r18 h, md_k273 h, md_r19 h, md_k274 h, md_r20 h, md_k275 h, md_r21 h, md_k276 h, md_r22 h, md_k277 h, md_r23 h, md_k278 h, md_r24 h, md_k279 h, md_r25 h, md_k280 h, md_r26 h, md_k281 h, md_r27 h, md_k282 h, md_r28 h, md_k283 h, md_r29 h, md_k284 h, md_r30 h, md_k285 h, md_r31 h, md_k286 h, md_r33 h, md_k287 h, md_r34 h, md_k288 h, md_r35 h, md_k289 h, md_r36 h, md_k290 h, md_r37 h, md_k291 h, h2, hha, z_in (show e < 2147483648 by omega), z_cl (show e < 2147483648 by omega), show e < 13 by omega, decide_true, z_ii (show cn e < 2147483648 by omega) (show cn e < 2147483648 by omega), Nat.le_refl]
      rw [s201_116, show nI e + -1 = nI e - 1 from by rw [nI_iZ, iZ_d, show (1 : Int32) = iZ 1 from rfl, iZ_sub]]
      exact x2
    · intro t q ht hx ih F l7 hF
      have hk1 : ¬ cn e ≤ t := by omega
      obtain ⟨H, x1, x2⟩ := m_next (J := J) (k := t) h hM (show e < P by omega) hF
      have heq := cdI_eq (x := nxM I P c e t) (i := p) (k := k) (fun j x hj => by have := nxO_lt hP2 hj; omega) (by omega) hk
      by_cases c1 : nxM I P c e t = some (p, k)
      · have hq : (cdI (nxM I P c e t) = nI (100 * p + k)) = True := by rw [heq]; exact eq_true c1
        have hco := m_common (I := hf_w I 280 H) (J := J) (p := e) (i := nI t) (q := p) (j := nI k) h (by rw [h1, hc]) hc2 (by omega) (by omega)
        rw [coI_w] at hco
        rw [if_pos c1, show cmM I c p k e t = coI I e (nI t) p (nI k) c from rfl] at ih
        by_cases c2 : coI I e (nI t) p (nI k) c ≤ q.2
        · rw [if_pos c2] at ih
          obtain ⟨H2, y1, y2⟩ := ih H (some (.int (coI I e (nI t) p (nI k) c))) x1
          refine ⟨H2, y1, ?_⟩
          simp only [s201_26, s201_28, s201_29, s201_32, s201_34, s201_35, s201_38, s201_39, s201_41, s201_43, s201_46, s201_48, s201_49, s201_50, s201_51, s201_52, s201_55, s201_56, s201_58, s201_60, s201_61, s201_62, s201_65, s201_68, s201_69, s201_71, s201_73, s201_75, s201_78, s201_80, s201_82, s201_83, s201_85, s201_86, s201_89, s201_90, s201_91, s201_93, s201_95, s201_98, s201_100, s201_103, s201_105, s201_107, hf_bd_v, hf_bd_n, hf_iv_i, hf_iv_l, hf_iv_a, hf_iv_n, hf_iv_2, z_lgl, z_lgg, z_lge, z_lgle, z_lgz, Option.getD_some, Option.isSome_some, ↓reduceIte, not_true_eq_false, not_false_eq_true, Option.toList_some, Option.toList_none, List.cons_append, List.nil_append, Nat.reduceAdd, Nat.add_assoc, ku_ne, ku_same, ne_eq, Nat.reduceEqDiff, reduceCtorEq, Nat.add_eq_left, Nat.left_eq_add, Nat.reduceEqDiff, q10, q_ne, true_or, or_true, md_k h, md_r16 h, md_k271 h, md_r17 h, md_k272 h, md_r18 h, md_k273 h, md_r19 h, md_k274 h, md_r20 h, md_k275 h, md_r21 h, md_k276 h, md_r22 h, md_k277 h, md_r23 h, md_k278 h, md_r24 h, md_k279 h, md_r25 h, md_k280 h, md_r26 h, md_k281 h, md_r27 h, md_k282 h, md_r28 h, md_k283 h, md_r29 h, md_k284 h, md_r30 h, md_k285 h, md_r31 h, md_k286 h, md_r33 h, md_k287 h, md_r34 h, md_k288 h, md_r35 h, md_k289 h, md_r36 h, md_k290 h, md_r37 h, md_k291 h, h.1, h2, hha, z_in (show e < 2147483648 by omega), z_cl (show e < 2147483648 by omega), show e < 13 by omega, decide_true, z_ii (show cn e < 2147483648 by omega) (show t < 2147483648 by omega), hk1, x2, nx100, hq, hco, c2, z_1]
          rw [s201_110]
          exact y2
        · rw [if_neg c2] at ih
          obtain ⟨H2, y1, y2⟩ := ih H (some (.int (coI I e (nI t) p (nI k) c))) x1
          refine ⟨H2, y1, ?_⟩
          simp only [s201_26, s201_28, s201_29, s201_32, s201_34, s201_35, s201_38, s201_39, s201_41, s201_43, s201_46, s201_48, s201_49, s201_50, s201_51, s201_52, s201_55, s201_56, s201_58, s201_60, s201_61, s201_62, s201_65, s201_68, s201_69, s201_71, s201_73, s201_75, s201_78, s201_80, s201_82, s201_83, s201_85, s201_86, s201_89, s201_90, s201_91, s201_93, s201_95, s201_98, s201_100, s201_103, s201_105, s201_107, hf_bd_v, hf_bd_n, hf_iv_i, hf_iv_l, hf_iv_a, hf_iv_n, hf_iv_2, z_lgl, z_lgg, z_lge, z_lgle, z_lgz, Option.getD_some, Option.isSome_some, ↓reduceIte, not_true_eq_false, not_false_eq_true, Option.toList_some, Option.toList_none, List.cons_append, List.nil_append, Nat.reduceAdd, Nat.add_assoc, ku_ne, ku_same, ne_eq, Nat.reduceEqDiff, reduceCtorEq, Nat.add_eq_left, Nat.left_eq_add, Nat.reduceEqDiff, q10, q_ne, true_or, or_true, md_k h, md_r16 h, md_k271 h, md_r17 h, md_k272 h, md_r18 h, md_k273 h, md_r19 h, md_k274 h, md_r20 h, md_k275 h, md_r21 h, md_k276 h, md_r22 h, md_k277 h, md_r23 h, md_k278 h, md_r24 h, md_k279 h, md_r25 h, md_k280 h, md_r26 h, md_k281 h, md_r27 h, md_k282 h, md_r28 h, md_k283 h, md_r29 h, md_k284 h, md_r30 h, md_k285 h, md_r31 h, md_k286 h, md_r33 h, md_k287 h, md_r34 h, md_k288 h, md_r35 h, md_k289 h, md_r36 h, md_k290 h, md_r37 h, md_k291 h, h.1, h2, hha, z_in (show e < 2147483648 by omega), z_cl (show e < 2147483648 by omega), show e < 13 by omega, decide_true, z_ii (show cn e < 2147483648 by omega) (show t < 2147483648 by omega), hk1, x2, nx100, hq, hco, c2, z_1]
          rw [s201_110]
          exact y2
      · have hq : (cdI (nxM I P c e t) = nI (100 * p + k)) = False := by rw [heq]; exact eq_false c1
        rw [if_neg c1] at ih
        by_cases c2 : (0 : Int32) ≤ q.2
        · rw [if_pos c2] at ih
          obtain ⟨H2, y1, y2⟩ := ih H (some (.int 0)) x1
          refine ⟨H2, y1, ?_⟩
          simp only [s201_26, s201_28, s201_29, s201_32, s201_34, s201_35, s201_38, s201_39, s201_41, s201_43, s201_46, s201_48, s201_49, s201_50, s201_51, s201_52, s201_55, s201_56, s201_58, s201_60, s201_61, s201_62, s201_65, s201_68, s201_69, s201_71, s201_73, s201_75, s201_78, s201_80, s201_82, s201_83, s201_85, s201_86, s201_89, s201_90, s201_91, s201_93, s201_95, s201_98, s201_100, s201_103, s201_105, s201_107, hf_bd_v, hf_bd_n, hf_iv_i, hf_iv_l, hf_iv_a, hf_iv_n, hf_iv_2, z_lgl, z_lgg, z_lge, z_lgle, z_lgz, Option.getD_some, Option.isSome_some, ↓reduceIte, not_true_eq_false, not_false_eq_true, Option.toList_some, Option.toList_none, List.cons_append, List.nil_append, Nat.reduceAdd, Nat.add_assoc, ku_ne, ku_same, ne_eq, Nat.reduceEqDiff, reduceCtorEq, Nat.add_eq_left, Nat.left_eq_add, Nat.reduceEqDiff, q10, q_ne, true_or, or_true, md_k h, md_r16 h, md_k271 h, md_r17 h, md_k272 h, md_r18 h, md_k273 h, md_r19 h, md_k274 h, md_r20 h, md_k275 h, md_r21 h, md_k276 h, md_r22 h, md_k277 h, md_r23 h, md_k278 h, md_r24 h, md_k279 h, md_r25 h, md_k280 h, md_r26 h, md_k281 h, md_r27 h, md_k282 h, md_r28 h, md_k283 h, md_r29 h, md_k284 h, md_r30 h, md_k285 h, md_r31 h, md_k286 h, md_r33 h, md_k287 h, md_r34 h, md_k288 h, md_r35 h, md_k289 h, md_r36 h, md_k290 h, md_r37 h, md_k291 h, h.1, h2, hha, z_in (show e < 2147483648 by omega), z_cl (show e < 2147483648 by omega), show e < 13 by omega, decide_true, z_ii (show cn e < 2147483648 by omega) (show t < 2147483648 by omega), hk1, x2, nx100, hq, c2, z_1]
          rw [s201_110]
          exact y2
        · rw [if_neg c2] at ih
          obtain ⟨H2, y1, y2⟩ := ih H (some (.int 0)) x1
          refine ⟨H2, y1, ?_⟩
          simp only [s201_26, s201_28, s201_29, s201_32, s201_34, s201_35, s201_38, s201_39, s201_41, s201_43, s201_46, s201_48, s201_49, s201_50, s201_51, s201_52, s201_55, s201_56, s201_58, s201_60, s201_61, s201_62, s201_65, s201_68, s201_69, s201_71, s201_73, s201_75, s201_78, s201_80, s201_82, s201_83, s201_85, s201_86, s201_89, s201_90, s201_91, s201_93, s201_95, s201_98, s201_100, s201_103, s201_105, s201_107, hf_bd_v, hf_bd_n, hf_iv_i, hf_iv_l, hf_iv_a, hf_iv_n, hf_iv_2, z_lgl, z_lgg, z_lge, z_lgle, z_lgz, Option.getD_some, Option.isSome_some, ↓reduceIte, not_true_eq_false, not_false_eq_true, Option.toList_some, Option.toList_none, List.cons_append, List.nil_append, Nat.reduceAdd, Nat.add_assoc, ku_ne, ku_same, ne_eq, Nat.reduceEqDiff, reduceCtorEq, Nat.add_eq_left, Nat.left_eq_add, Nat.reduceEqDiff, q10, q_ne, true_or, or_true, md_k h, md_r16 h, md_k271 h, md_r17 h, md_k272 h, md_r18 h, md_k273 h, md_r19 h, md_k274 h, md_r20 h, md_k275 h, md_r21 h, md_k276 h, md_r22 h, md_k277 h, md_r23 h, md_k278 h, md_r24 h, md_k279 h, md_r25 h, md_k280 h, md_r26 h, md_k281 h, md_r27 h, md_k282 h, md_r28 h, md_k283 h, md_r29 h, md_k284 h, md_r30 h, md_k285 h, md_r31 h, md_k286 h, md_r33 h, md_k287 h, md_r34 h, md_k288 h, md_r35 h, md_k289 h, md_r36 h, md_k290 h, md_r37 h, md_k291 h, h.1, h2, hha, z_in (show e < 2147483648 by omega), z_cl (show e < 2147483648 by omega), show e < 13 by omega, decide_true, z_ii (show cn e < 2147483648 by omega) (show t < 2147483648 by omega), hk1, x2, nx100, hq, c2, z_1]
          rw [s201_110]
          exact y2
  have e1 : nI p - 1 = iZ ((p : Int) - 1) := nI_m1 p
  have e3 : nI p - 3 = iZ ((p : Int) - 3) := by rw [nI_iZ, show (3 : Int32) = iZ 3 from rfl, iZ_sub]
  have lt0 : ∀ a : Int, -100 ≤ a → a ≤ 100 → (iZ a < 0) = (a < 0) := fun a x1 x2 => by rw [show (0 : Int32) = iZ 0 from rfl, iZ_lt (iRs (by omega) (by omega)) (iRs (by omega) (by omega))]
  have le3 : ∀ a : Int, -100 ≤ a → a ≤ 100 → (iZ a ≤ iZ ((p : Int) - 3)) = (a ≤ (p : Int) - 3) := fun a x1 x2 => iZ_le (iRs (by omega) (by omega)) (iRs (by omega) (by omega))
  unfold frM
  by_cases c1 : 1 ≤ p
  · rw [if_pos c1]
    have b1 : ¬ ((p : Int) - 1 < 0) := by omega
    have b2 : ¬ ((p : Int) - 1 ≤ (p : Int) - 3) := by omega
    have hen : iZ ((p : Int) - 1) = nI (p - 1) := by rw [nI_iZ]; congr 1; omega
    by_cases c2 : 2 ≤ p
    · rw [if_pos c2]
      have b3 : ¬ ((p : Int) - 2 < 0) := by omega
      have b4 : ¬ ((p : Int) - 2 ≤ (p : Int) - 3) := by omega
      have hen2 : iZ ((p : Int) - 2) = nI (p - 2) := by rw [nI_iZ]; congr 1; omega
      have hen3 : nI (p - 1) - 1 = iZ ((p : Int) - 2) := by rw [nI_m1]; congr 1; omega
      have hen4 : nI (p - 2) - 1 = iZ ((p : Int) - 3) := by rw [nI_m1]; congr 1; omega
      obtain ⟨H, y1, y2⟩ := inner (p - 1) (none, 0) (cdI (mfM (nxM I P c) (cmM I c p k) p k (p - 2) (mfM (nxM I P c) (cmM I c p k) p k (p - 1) (none, 0) (cn (p - 1))) (cn (p - 2))).1) (by omega) (fun F l6 l7 hF => by
        obtain ⟨H, z1, z2⟩ := inner (p - 2) (mfM (nxM I P c) (cmM I c p k) p k (p - 1) (none, 0) (cn (p - 1))) (cdI (mfM (nxM I P c) (cmM I c p k) p k (p - 2) (mfM (nxM I P c) (cmM I c p k) p k (p - 1) (none, 0) (cn (p - 1))) (cn (p - 2))).1) (by omega) (fun F l6 l7 hF => by
          refine ⟨F, hF, ?_⟩
          by_cases c5 : (p : Int) - 3 < 0
          · simp only [s201_10, s201_12, s201_15, s201_17, s201_18, s201_19, s201_20, s201_23, s201_24, s201_119, s201_120, hf_bd_v, hf_bd_n, hf_iv_i, hf_iv_l, hf_iv_a, hf_iv_n, hf_iv_2, z_lgl, z_lgg, z_lge, z_lgle, z_lgz, Option.getD_some, Option.isSome_some, ↓reduceIte, not_true_eq_false, not_false_eq_true, Option.toList_some, Option.toList_none, List.cons_append, List.nil_append, Nat.reduceAdd, Nat.add_assoc, ku_ne, ku_same, ne_eq, Nat.reduceEqDiff, reduceCtorEq, Nat.add_eq_left, Nat.left_eq_add, Nat.reduceEqDiff, q10, q_ne, true_or, or_true, hen4, e3, lt0 ((p : Int) - 3) (by omega) (by omega), c5]
          · simp only [s201_10, s201_12, s201_15, s201_17, s201_18, s201_19, s201_20, s201_23, s201_24, s201_119, s201_120, hf_bd_v, hf_bd_n, hf_iv_i, hf_iv_l, hf_iv_a, hf_iv_n, hf_iv_2, z_lgl, z_lgg, z_lge, z_lgle, z_lgz, Option.getD_some, Option.isSome_some, ↓reduceIte, not_true_eq_false, not_false_eq_true, Option.toList_some, Option.toList_none, List.cons_append, List.nil_append, Nat.reduceAdd, Nat.add_assoc, ku_ne, ku_same, ne_eq, Nat.reduceEqDiff, reduceCtorEq, Nat.add_eq_left, Nat.left_eq_add, Nat.reduceEqDiff, q10, q_ne, true_or, or_true, hen4, e3, lt0 ((p : Int) - 3) (by omega) (by omega), c5, le3 ((p : Int) - 3) (by omega) (by omega), Int.le_refl]) F l7 hF
        refine ⟨H, z1, ?_⟩
        simp only [s201_10, s201_12, s201_15, s201_17, s201_18, s201_19, s201_20, s201_23, s201_24, hf_bd_v, hf_bd_n, hf_iv_i, hf_iv_l, hf_iv_a, hf_iv_n, hf_iv_2, z_lgl, z_lgg, z_lge, z_lgle, z_lgz, Option.getD_some, Option.isSome_some, ↓reduceIte, not_true_eq_false, not_false_eq_true, Option.toList_some, Option.toList_none, List.cons_append, List.nil_append, Nat.reduceAdd, Nat.add_assoc, ku_ne, ku_same, ne_eq, Nat.reduceEqDiff, reduceCtorEq, Nat.add_eq_left, Nat.left_eq_add, Nat.reduceEqDiff, q10, q_ne, true_or, or_true, hen3, e3, lt0 ((p : Int) - 2) (by omega) (by omega), le3 ((p : Int) - 2) (by omega) (by omega), b3, b4]
        rw [hen2]
        exact z2) F none hF
      refine ⟨H, y1, ?_⟩
      simp only [s201_0, s201_1, s201_2, s201_3, s201_5, s201_6, s201_7, s201_8, s201_10, s201_12, s201_15, s201_17, s201_18, s201_19, s201_20, s201_23, s201_24, hf_bd_v, hf_bd_n, hf_iv_i, hf_iv_l, hf_iv_a, hf_iv_n, hf_iv_2, z_lgl, z_lgg, z_lge, z_lgle, z_lgz, Option.getD_some, Option.isSome_some, ↓reduceIte, not_true_eq_false, not_false_eq_true, Option.toList_some, Option.toList_none, List.cons_append, List.nil_append, Nat.reduceAdd, Nat.add_assoc, ku_ne, ku_same, ne_eq, Nat.reduceEqDiff, reduceCtorEq, Nat.add_eq_left, Nat.left_eq_add, Nat.reduceEqDiff, q10, q_ne, true_or, or_true, e1, e3, lt0 ((p : Int) - 1) (by omega) (by omega), le3 ((p : Int) - 1) (by omega) (by omega), b1, b2]
      rw [hen]
      exact y2
    · rw [if_neg c2]
      have hen3 : nI (p - 1) - 1 = iZ ((p : Int) - 2) := by rw [nI_m1]; congr 1; omega
      have b3 : ((p : Int) - 2 < 0) := by omega
      obtain ⟨H, y1, y2⟩ := inner (p - 1) (none, 0) (cdI (mfM (nxM I P c) (cmM I c p k) p k (p - 1) (none, 0) (cn (p - 1))).1) (by omega) (fun F l6 l7 hF => by
        refine ⟨F, hF, ?_⟩
        simp only [s201_10, s201_12, s201_15, s201_17, s201_18, s201_19, s201_20, s201_23, s201_24, s201_119, s201_120, hf_bd_v, hf_bd_n, hf_iv_i, hf_iv_l, hf_iv_a, hf_iv_n, hf_iv_2, z_lgl, z_lgg, z_lge, z_lgle, z_lgz, Option.getD_some, Option.isSome_some, ↓reduceIte, not_true_eq_false, not_false_eq_true, Option.toList_some, Option.toList_none, List.cons_append, List.nil_append, Nat.reduceAdd, Nat.add_assoc, ku_ne, ku_same, ne_eq, Nat.reduceEqDiff, reduceCtorEq, Nat.add_eq_left, Nat.left_eq_add, Nat.reduceEqDiff, q10, q_ne, true_or, or_true, hen3, e3, lt0 ((p : Int) - 2) (by omega) (by omega), b3]) F none hF
      refine ⟨H, y1, ?_⟩
      simp only [s201_0, s201_1, s201_2, s201_3, s201_5, s201_6, s201_7, s201_8, s201_10, s201_12, s201_15, s201_17, s201_18, s201_19, s201_20, s201_23, s201_24, hf_bd_v, hf_bd_n, hf_iv_i, hf_iv_l, hf_iv_a, hf_iv_n, hf_iv_2, z_lgl, z_lgg, z_lge, z_lgle, z_lgz, Option.getD_some, Option.isSome_some, ↓reduceIte, not_true_eq_false, not_false_eq_true, Option.toList_some, Option.toList_none, List.cons_append, List.nil_append, Nat.reduceAdd, Nat.add_assoc, ku_ne, ku_same, ne_eq, Nat.reduceEqDiff, reduceCtorEq, Nat.add_eq_left, Nat.left_eq_add, Nat.reduceEqDiff, q10, q_ne, true_or, or_true, e1, e3, lt0 ((p : Int) - 1) (by omega) (by omega), le3 ((p : Int) - 1) (by omega) (by omega), b1, b2]
      rw [hen]
      exact y2
  · rw [if_neg c1]
    have b1 : ((p : Int) - 1 < 0) := by omega
    refine ⟨F, hF, ?_⟩
    simp only [s201_0, s201_1, s201_2, s201_3, s201_5, s201_6, s201_7, s201_8, s201_10, s201_12, s201_15, s201_17, s201_18, s201_19, s201_20, s201_23, s201_24, s201_119, s201_120, hf_bd_v, hf_bd_n, hf_iv_i, hf_iv_l, hf_iv_a, hf_iv_n, hf_iv_2, z_lgl, z_lgg, z_lge, z_lgle, z_lgz, Option.getD_some, Option.isSome_some, ↓reduceIte, not_true_eq_false, not_false_eq_true, Option.toList_some, Option.toList_none, List.cons_append, List.nil_append, Nat.reduceAdd, Nat.add_assoc, ku_ne, ku_same, ne_eq, Nat.reduceEqDiff, reduceCtorEq, Nat.add_eq_left, Nat.left_eq_add, Nat.reduceEqDiff, q10, q_ne, true_or, or_true, e1, lt0 ((p : Int) - 1) (by omega) (by omega), b1, cdI]
theorem m_branch (h : Md g) (hM : Mdp I c P cn) (hp : p < P) (hk : k < cn p) (hF : s64 (I 280) F) : ∃ H, s64 (I 280) H ∧ hf_rn 203 0 [some (.ref 270), some (.int (nI p)), some (.int (nI k)), none, none] [] g (hf_w I 280 F) J = some (.inl (some (.int (nI (chN (fun e o => frM cn (nxM I P c) (cmM I c e o) e o) (p + 1) p k)))), g, hf_w I 280 H, J) := by
  obtain ⟨hc, hc2, hP1, hP2, hM5, hM6⟩ := id hM
  have loop : ∀ (n e o x : Nat) (F : Nat → Int32), e < n → e < P → o < cn e → s64 (I 280) F → ∃ H, s64 (I 280) H ∧ hf_rn 203 10 [some (.ref 270), some (.int (nI p)), some (.int (nI k)), some (.int (nI x)), some (.int (nI (100 * e + o)))] [] g (hf_w I 280 F) J = some (.inl (some (.int (nI (x + chN (fun e o => frM cn (nxM I P c) (cmM I c e o) e o) n e o)))), g, hf_w I 280 H, J) := by
    intro n
    induction n with
    | zero => intro e o x F he; omega
    | succ n ih =>
      intro e o x F he heP ho hF
      have h64 := (hM5 e heP).1
      have hnl : ¬ nI (100 * e + o) = -1 := by rw [nI_iZ, show (-1 : Int32) = iZ (-1) from rfl, iZ_eq (iRs (by omega) (by omega)) (iRs (by omega) (by omega))]; omega
      obtain ⟨H, x1, x2⟩ := m_fromOf (J := J) (k := o) h hM heP (by omega) hF
      cases hf : frM cn (nxM I P c) (cmM I c e o) e o with
      | none =>
        rw [hf] at x2
        refine ⟨H, x1, ?_⟩
        have hch : chN (fun e o => frM cn (nxM I P c) (cmM I c e o) e o) (n + 1) e o = 1 := by rw [chN, hf]
        simp only [s203_10, s203_12, s203_13, s203_16, s203_19, s203_20, s203_22, s203_24, s203_25, s203_27, s203_29, s203_30, s203_33, hf_bd_v, hf_bd_n, hf_iv_i, hf_iv_l, hf_iv_a, hf_iv_n, hf_iv_2, z_lgl, z_lgg, z_lge, z_lgle, z_lgz, Option.getD_some, Option.isSome_some, ↓reduceIte, not_true_eq_false, not_false_eq_true, Option.toList_some, Option.toList_none, List.cons_append, List.nil_append, Nat.reduceAdd, Nat.add_assoc, ku_ne, ku_same, ne_eq, Nat.reduceEqDiff, reduceCtorEq, Nat.add_eq_left, Nat.left_eq_add, Nat.reduceEqDiff, q10, q_ne, true_or, or_true, h.1, hnl, qi100, cdv (show o < 100 by omega) (show e < 1000 by omega), crm (show o < 100 by omega) (show e < 1000 by omega), x2, cdI, z_1]
        rw [s203_35]
        simp only [s203_10, s203_12, s203_13, s203_38, s203_39, hf_bd_v, hf_bd_n, hf_iv_i, hf_iv_l, hf_iv_a, hf_iv_n, hf_iv_2, z_lgl, z_lgg, z_lge, z_lgle, z_lgz, Option.getD_some, Option.isSome_some, ↓reduceIte, not_true_eq_false, not_false_eq_true, Option.toList_some, Option.toList_none, List.cons_append, List.nil_append, Nat.reduceAdd, Nat.add_assoc, ku_ne, ku_same, ne_eq, Nat.reduceEqDiff, reduceCtorEq, Nat.add_eq_left, Nat.left_eq_add, Nat.reduceEqDiff, q10, q_ne, true_or, or_true, hch]
      | some jx =>
        obtain ⟨j, z⟩ := jx
        rw [hf] at x2
        obtain ⟨p1, p2⟩ := frM_k hf
        obtain ⟨H2, y1, y2⟩ := ih j z (x + 1) H (by omega) (by omega) p2 x1
        refine ⟨H2, y1, ?_⟩
        have hch : x + chN (fun e o => frM cn (nxM I P c) (cmM I c e o) e o) (n + 1) e o = x + 1 + chN (fun e o => frM cn (nxM I P c) (cmM I c e o) e o) n j z := by rw [chN, hf]; dsimp only; omega
        rw [hch]
        simp only [s203_10, s203_12, s203_13, s203_16, s203_19, s203_20, s203_22, s203_24, s203_25, s203_27, s203_29, s203_30, s203_33, hf_bd_v, hf_bd_n, hf_iv_i, hf_iv_l, hf_iv_a, hf_iv_n, hf_iv_2, z_lgl, z_lgg, z_lge, z_lgle, z_lgz, Option.getD_some, Option.isSome_some, ↓reduceIte, not_true_eq_false, not_false_eq_true, Option.toList_some, Option.toList_none, List.cons_append, List.nil_append, Nat.reduceAdd, Nat.add_assoc, ku_ne, ku_same, ne_eq, Nat.reduceEqDiff, reduceCtorEq, Nat.add_eq_left, Nat.left_eq_add, Nat.reduceEqDiff, q10, q_ne, true_or, or_true, h.1, hnl, qi100, cdv (show o < 100 by omega) (show e < 1000 by omega), crm (show o < 100 by omega) (show e < 1000 by omega), x2, cdI, z_1]
        rw [s203_35]
        rw [Nat.add_assoc] at y2
        exact y2
  obtain ⟨H, y1, y2⟩ := loop (p + 1) p k 0 F (by omega) hp hk hF
  refine ⟨H, y1, ?_⟩
  rw [Nat.zero_add] at y2
  simp only [s203_0, s203_1, s203_2, s203_4, s203_5, s203_6, s203_7, s203_8, hf_bd_v, hf_bd_n, hf_iv_i, hf_iv_l, hf_iv_a, hf_iv_n, hf_iv_2, z_lgl, z_lgg, z_lge, z_lgle, z_lgz, Option.getD_some, Option.isSome_some, ↓reduceIte, not_true_eq_false, not_false_eq_true, Option.toList_some, Option.toList_none, List.cons_append, List.nil_append, Nat.reduceAdd, Nat.add_assoc, ku_ne, ku_same, ne_eq, Nat.reduceEqDiff, reduceCtorEq, Nat.add_eq_left, Nat.left_eq_add, Nat.reduceEqDiff, q10, q_ne, true_or, or_true, nx100]
  exact y2
end
