/-! THE MODEL: halos of now -/
section
variable {g : hf_G} {I : hf_I} {J : hf_J} {a b c k l m n s p q cl : Nat} {u v w : Int64} {i j x y : Int32} {M : Nat → Nat} {O F H K : Nat → Int32}
theorem w3_wa {α : Type} {J : Nat → Nat → α} {a b c : Nat} {F H K F2 : Nat → α} (h : a ≠ b) (h2 : a ≠ c) : hf_w (w3 J a b c F H K) a F2 = w3 J a b c F2 H K := by
  funext x y
  by_cases e1 : x = a
  · subst e1; rw [kw_row, w3_a h h2]
  · rw [kw_ne e1]
    by_cases e2 : x = b
    · subst e2
      by_cases e3 : x = c
      · subst e3; rw [w3_c, w3_c]
      · rw [w3_b e3, w3_b e3]
    · by_cases e3 : x = c
      · subst e3; rw [w3_c, w3_c]
      · rw [w3_n e1 e2 e3, w3_n e1 e2 e3]
theorem w3_wc {α : Type} {J : Nat → Nat → α} {a b c : Nat} {F H K K2 : Nat → α} : hf_w (w3 J a b c F H K) c K2 = w3 J a b c F H K2 := by rw [w3, kw_w, w3]
theorem w3_self {α : Type} {J : Nat → Nat → α} {a b c : Nat} : w3 J a b c (J a) (J b) (J c) = J := by rw [w3, kw_self, kw_self, kw_self]
/-- how many bear each mark -/
def shM (c : Nat) (M : Nat → Nat) (O : Nat → Int32) (t : Nat) : Nat → Int32 := it t (fun j => if j < c then 0 else O j) fun k B => up B (M k) (B (M k) + 1)
def nm2 (c : Nat) (F : Nat → Int32) (l v : Int32) (H : Nat → Int32) : Nat → Int32 := fun j => if 768 ≤ j ∧ j < 768 + c ∧ F (j - 768) = l then v else H j
/-- halos of one size, of all sizes -/
def hsM (c : Nat) (F B : Nat → Int32) (z : Int32) (p : Nat × (Nat → Int32)) (t : Nat) : Nat × (Nat → Int32) := it t p fun k p => if B k = z then (p.1 + 1, nm2 c F (nI k) (nI p.1) p.2) else p
def hzM (c : Nat) (F B : Nat → Int32) (H : Nat → Int32) (t : Nat) : Nat × (Nat → Int32) := it t (0, H) fun t p => hsM c F B (nI (c - t)) p c
theorem hsM_le {B : Nat → Int32} {z : Int32} {p : Nat × (Nat → Int32)} : ∀ t, (hsM c F B z p t).1 ≤ p.1 + t := by
  intro t
  induction t with
  | zero => exact Nat.le_refl _
  | succ t ih =>
    rw [hsM, it_s, ← hsM]
    split
    · dsimp only; omega
    · omega
theorem hzM_le {B : Nat → Int32} {H : Nat → Int32} : ∀ t, (hzM c F B H t).1 ≤ c * t := by
  intro t
  induction t with
  | zero => exact Nat.zero_le _
  | succ t ih =>
    rw [hzM, it_s, ← hzM]
    have := @hsM_le c F B (nI (c - t)) (hzM c F B H t) c
    rw [Nat.mul_succ]
    omega
def fhI (I : hf_I) (c l : Nat) (M : Nat → Nat) : hf_I :=
  hf_u (w3 I 279 280 275 (nmM c M (I 279)) (shM c M (I 280) c) (hzM c (nmM c M (I 279)) (shM c M (I 280) c) (nwR (I 275) c (fun _ => -1)) (c + 1 - l)).2) 276 12 (nI (hzM c (nmM c M (I 279)) (shM c M (I 280) c) (nwR (I 275) c (fun _ => -1)) (c + 1 - l)).1)
theorem m_findsHalos (h : Md g) (hc : I 270 1 = nI c) (hc2 : c ≤ 64) (hl : I 270 6 = nI l) (hl1 : 1 ≤ l) (hl2 : l ≤ 64) : ∃ M, mkd (LkM I) c M ∧ hf_rn 183 0 [some (.ref 270), none, none, none] [] g I J = some (.inl none, g, fhI I c l M, J) := by
  obtain ⟨M, hM, hrun⟩ := m_marks (J := J) h hc hc2
  refine ⟨M, hM, ?_⟩
  have hlt : ∀ k, k < c → M k < 64 := fun k hk => by have := (hM.1 k hk).1; omega
  have h1 : ∀ F B H : Nat → Int32, w3 I 279 280 275 F B H 270 = I 270 := fun F B H => w3_n (by decide) (by decide) (by decide)
  have hv : ∀ k, k < c → nmM c M (I 279) k = nI (M k) := fun k hk => nmM_lt hk
  unfold fhI
  generalize nmM c M (I 279) = F at *
  -- the names
  have loop3 : ∀ (B H0 : Nat → Int32) (l3 : Option Value), hf_rn 183 76 [some (.ref 270), some (.int (nI 0)), some (.int (iZ ((c : Int) - (0 : Nat)))), l3] [] g (w3 I 279 280 275 F B H0) J = some (.inl none, g, hf_u (w3 I 279 280 275 F B (hzM c F B H0 (c + 1 - l)).2) 276 12 (nI (hzM c F B H0 (c + 1 - l)).1), J) := by
    intro B H0
    refine down (n := c + 1 - l) (s := ((0 : Nat), H0)) (f := fun t p => hsM c F B (nI (c - t)) p c) (fun t p => ∀ l3, hf_rn 183 76 [some (.ref 270), some (.int (nI p.1)), some (.int (iZ ((c : Int) - (t : Nat)))), l3] [] g (w3 I 279 280 275 F B p.2) J = some (.inl none, g, hf_u (w3 I 279 280 275 F B (hzM c F B H0 (c + 1 - l)).2) 276 12 (nI (hzM c F B H0 (c + 1 - l)).1), J)) ?_ ?_
    · intro l3
      have h2 : (iZ ((c : Int) - (c + 1 - l : Nat)) < nI l) = True := by
        rw [nI_iZ, iZ_lt (iRs (by omega) (by omega)) (iRs (by omega) (by omega))]
        apply eq_true
        omega
      simp only [s183_76, s183_77, s183_78, s183_81, s183_84, s183_85, s183_125, s183_126, s183_129, s183_131, s183_132, s183_133, hf_bd_v, hf_bd_n, hf_iv_i, hf_iv_l, hf_iv_a, hf_iv_n, hf_iv_2, z_lgl, z_lgg, z_lge, z_lgle, z_lgz, Option.getD_some, Option.isSome_some, ↓reduceIte, not_true_eq_false, not_false_eq_true, Option.toList_some, Option.toList_none, List.cons_append, List.nil_append, Nat.reduceAdd, Nat.add_assoc, ku_ne, ku_same, ne_eq, Nat.reduceEqDiff, reduceCtorEq, Nat.add_eq_left, Nat.left_eq_add, Nat.reduceEqDiff, q10, q_ne, true_or, or_true, md_k h, md_r16 h, md_k271 h, md_r17 h, md_k272 h, md_r18 h, md_k273 h, md_r19 h, md_k274 h, md_r20 h, md_k275 h, md_r21 h, md_k276 h, md_r22 h, md_k277 h, md_r23 h, md_k278 h, md_r24 h, md_k279 h, md_r25 h, md_k280 h, md_r26 h, md_k281 h, md_r27 h, md_k282 h, md_r28 h, md_k283 h, md_r29 h, md_k284 h, md_r30 h, md_k285 h, md_r31 h, md_k286 h, md_r33 h, md_k287 h, md_r34 h, md_k288 h, md_r35 h, md_k289 h, md_r36 h, md_k290 h, md_r37 h, md_k291 h, h1, hl, h2, Nat.reduceLT, decide_true, show hf_in 12 13 = true from by decide, show (12 : Int32).toNatClampNeg = 12 from by decide]
      rfl
    · intro t p ht hx ih l3
      have h2 : (iZ ((c : Int) - (t : Nat)) < nI l) = False := by
        rw [nI_iZ, iZ_lt (iRs (by omega) (by omega)) (iRs (by omega) (by omega))]
        apply eq_false
        omega
      simp only [s183_76, s183_77, s183_78, s183_81, s183_84, s183_85, hf_bd_v, hf_bd_n, hf_iv_i, hf_iv_l, hf_iv_a, hf_iv_n, hf_iv_2, z_lgl, z_lgg, z_lge, z_lgle, z_lgz, Option.getD_some, Option.isSome_some, ↓reduceIte, not_true_eq_false, not_false_eq_true, Option.toList_some, Option.toList_none, List.cons_append, List.nil_append, Nat.reduceAdd, Nat.add_assoc, ku_ne, ku_same, ne_eq, Nat.reduceEqDiff, reduceCtorEq, Nat.add_eq_left, Nat.left_eq_add, Nat.reduceEqDiff, q10, q_ne, true_or, or_true, md_k h, md_r16 h, md_k271 h, md_r17 h, md_k272 h, md_r18 h, md_k273 h, md_r19 h, md_k274 h, md_r20 h, md_k275 h, md_r21 h, md_k276 h, md_r22 h, md_k277 h, md_r23 h, md_k278 h, md_r24 h, md_k279 h, md_r25 h, md_k280 h, md_r26 h, md_k281 h, md_r27 h, md_k282 h, md_r28 h, md_k283 h, md_r29 h, md_k284 h, md_r30 h, md_k285 h, md_r31 h, md_k286 h, md_r33 h, md_k287 h, md_r34 h, md_k288 h, md_r35 h, md_k289 h, md_r36 h, md_k290 h, md_r37 h, md_k291 h, h1, hl, h2]
      have hz : iZ ((c : Int) - (t : Nat)) = nI (c - t) := by rw [nI_iZ]; congr 1; omega
      refine down (n := c) (s := p) (f := fun k p => if B k = nI (c - t) then (p.1 + 1, nm2 c F (nI k) (nI p.1) p.2) else p) (fun r y => hf_rn 183 86 [some (.ref 270), some (.int (nI y.1)), some (.int (iZ ((c : Int) - (t : Nat)))), some (.int (nI r))] [] g (w3 I 279 280 275 F B y.2) J = some (.inl none, g, hf_u (w3 I 279 280 275 F B (hzM c F B H0 (c + 1 - l)).2) 276 12 (nI (hzM c F B H0 (c + 1 - l)).1), J)) ?_ ?_
      · simp only [s183_86, s183_87, s183_88, s183_91, s183_94, s183_95, s183_98, s183_99, s183_100, s183_101, s183_104, s183_105, s183_106, s183_107, s183_110, s183_113, s183_116, s183_119, hf_bd_v, hf_bd_n, hf_iv_i, hf_iv_l, hf_iv_a, hf_iv_n, hf_iv_2, z_lgl, z_lgg, z_lge, z_lgle, z_lgz, Option.getD_some, Option.isSome_some, ↓reduceIte, not_true_eq_false, not_false_eq_true, Option.toList_some, Option.toList_none, List.cons_append, List.nil_append, Nat.reduceAdd, Nat.add_assoc, ku_ne, ku_same, ne_eq, Nat.reduceEqDiff, reduceCtorEq, Nat.add_eq_left, Nat.left_eq_add, Nat.reduceEqDiff, q10, q_ne, true_or, or_true, md_k h, md_r16 h, md_k271 h, md_r17 h, md_k272 h, md_r18 h, md_k273 h, md_r19 h, md_k274 h, md_r20 h, md_k275 h, md_r21 h, md_k276 h, md_r22 h, md_k277 h, md_r23 h, md_k278 h, md_r24 h, md_k279 h, md_r25 h, md_k280 h, md_r26 h, md_k281 h, md_r27 h, md_k282 h, md_r28 h, md_k283 h, md_r29 h, md_k284 h, md_r30 h, md_k285 h, md_r31 h, md_k286 h, md_r33 h, md_k287 h, md_r34 h, md_k288 h, md_r35 h, md_k289 h, md_r36 h, md_k290 h, md_r37 h, md_k291 h, h1, hc, z_ii (show c < 2147483648 by omega) (show c < 2147483648 by omega), Nat.le_refl, iZ_d]
        rw [s183_122]
        have e : (c : Int) - (t : Nat) - 1 = (c : Int) - (t + 1 : Nat) := by omega
        rw [e]
        exact ih _
      · intro r y hr hy ih2
        have hk2 : ¬ c ≤ r := by omega
        have hr64 : r < 64 := by omega
        rw [hz] at ih2 ⊢
        by_cases c1 : B r = nI (c - t)
        · rw [if_pos c1] at ih2
          have hn := m_names (I := w3 I 279 280 275 F B y.2) (J := J) (i := nI r) (j := nI y.1) h (by rw [h1, hc]) hc2
          have hn2 : hf_w (w3 I 279 280 275 F B y.2) 275 (nmH (w3 I 279 280 275 F B y.2) (nI r) (nI y.1) c) = w3 I 279 280 275 F B (nm2 c F (nI r) (nI y.1) y.2) := by
            rw [w3_wc]
            congr 1
          rw [hn2] at hn
          simp only [s183_86, s183_87, s183_88, s183_91, s183_94, s183_95, s183_98, s183_99, s183_100, s183_101, s183_104, s183_105, s183_106, s183_107, s183_110, s183_113, hf_bd_v, hf_bd_n, hf_iv_i, hf_iv_l, hf_iv_a, hf_iv_n, hf_iv_2, z_lgl, z_lgg, z_lge, z_lgle, z_lgz, Option.getD_some, Option.isSome_some, ↓reduceIte, not_true_eq_false, not_false_eq_true, Option.toList_some, Option.toList_none, List.cons_append, List.nil_append, Nat.reduceAdd, Nat.add_assoc, ku_ne, ku_same, ne_eq, Nat.reduceEqDiff, reduceCtorEq, Nat.add_eq_left, Nat.left_eq_add, Nat.reduceEqDiff, q10, q_ne, true_or, or_true, md_k h, md_r16 h, md_k271 h, md_r17 h, md_k272 h, md_r18 h, md_k273 h, md_r19 h, md_k274 h, md_r20 h, md_k275 h, md_r21 h, md_k276 h, md_r22 h, md_k277 h, md_r23 h, md_k278 h, md_r24 h, md_k279 h, md_r25 h, md_k280 h, md_r26 h, md_k281 h, md_r27 h, md_k282 h, md_r28 h, md_k283 h, md_r29 h, md_k284 h, md_r30 h, md_k285 h, md_r31 h, md_k286 h, md_r33 h, md_k287 h, md_r34 h, md_k288 h, md_r35 h, md_k289 h, md_r36 h, md_k290 h, md_r37 h, md_k291 h, h.1, h1, hc, z_ii (show c < 2147483648 by omega) (show r < 2147483648 by omega), hk2, z_1, z_in (show r < 2147483648 by omega), z_cl (show r < 2147483648 by omega), hr64, decide_true, w3_b, c1, hn]
          rw [s183_116]
          exact ih2
        · rw [if_neg c1] at ih2
          simp only [s183_86, s183_87, s183_88, s183_91, s183_94, s183_95, s183_98, s183_99, s183_100, s183_101, s183_104, s183_105, s183_106, s183_107, s183_110, s183_113, hf_bd_v, hf_bd_n, hf_iv_i, hf_iv_l, hf_iv_a, hf_iv_n, hf_iv_2, z_lgl, z_lgg, z_lge, z_lgle, z_lgz, Option.getD_some, Option.isSome_some, ↓reduceIte, not_true_eq_false, not_false_eq_true, Option.toList_some, Option.toList_none, List.cons_append, List.nil_append, Nat.reduceAdd, Nat.add_assoc, ku_ne, ku_same, ne_eq, Nat.reduceEqDiff, reduceCtorEq, Nat.add_eq_left, Nat.left_eq_add, Nat.reduceEqDiff, q10, q_ne, true_or, or_true, md_k h, md_r16 h, md_k271 h, md_r17 h, md_k272 h, md_r18 h, md_k273 h, md_r19 h, md_k274 h, md_r20 h, md_k275 h, md_r21 h, md_k276 h, md_r22 h, md_k277 h, md_r23 h, md_k278 h, md_r24 h, md_k279 h, md_r25 h, md_k280 h, md_r26 h, md_k281 h, md_r27 h, md_k282 h, md_r28 h, md_k283 h, md_r29 h, md_k284 h, md_r30 h, md_k285 h, md_r31 h, md_k286 h, md_r33 h, md_k287 h, md_r34 h, md_k288 h, md_r35 h, md_k289 h, md_r36 h, md_k290 h, md_r37 h, md_k291 h, h1, hc, z_ii (show c < 2147483648 by omega) (show r < 2147483648 by omega), hk2, z_1, z_in (show r < 2147483648 by omega), z_cl (show r < 2147483648 by omega), hr64, decide_true, w3_b, c1]
          rw [s183_116]
          exact ih2
  -- how many bear each
  have loop2 : ∀ (H : Nat → Int32) (l2 l3 : Option Value), hf_rn 183 40 [some (.ref 270), some (.int (nI 0)), l2, l3] [] g (w3 I 279 280 275 F (shM c M (I 280) 0) H) J = some (.inl none, g, hf_u (w3 I 279 280 275 F (shM c M (I 280) c) (hzM c F (shM c M (I 280) c) H (c + 1 - l)).2) 276 12 (nI (hzM c F (shM c M (I 280) c) H (c + 1 - l)).1), J) := by
    intro H l2 l3
    refine down (n := c) (s := fun j => if j < c then (0 : Int32) else I 280 j) (f := fun k B => up B (M k) (B (M k) + 1)) (fun t B => hf_rn 183 40 [some (.ref 270), some (.int (nI t)), l2, l3] [] g (w3 I 279 280 275 F B H) J = some (.inl none, g, hf_u (w3 I 279 280 275 F (shM c M (I 280) c) (hzM c F (shM c M (I 280) c) H (c + 1 - l)).2) 276 12 (nI (hzM c F (shM c M (I 280) c) H (c + 1 - l)).1), J)) ?_ ?_
    · simp only [s183_40, s183_41, s183_42, s183_45, s183_48, s183_49, s183_52, s183_53, s183_56, s183_57, s183_58, s183_59, s183_60, s183_61, s183_62, s183_63, s183_69, s183_70, s183_71, s183_72, s183_75, hf_bd_v, hf_bd_n, hf_iv_i, hf_iv_l, hf_iv_a, hf_iv_n, hf_iv_2, z_lgl, z_lgg, z_lge, z_lgle, z_lgz, Option.getD_some, Option.isSome_some, ↓reduceIte, not_true_eq_false, not_false_eq_true, Option.toList_some, Option.toList_none, List.cons_append, List.nil_append, Nat.reduceAdd, Nat.add_assoc, ku_ne, ku_same, ne_eq, Nat.reduceEqDiff, reduceCtorEq, Nat.add_eq_left, Nat.left_eq_add, Nat.reduceEqDiff, q10, q_ne, true_or, or_true, md_k h, md_r16 h, md_k271 h, md_r17 h, md_k272 h, md_r18 h, md_k273 h, md_r19 h, md_k274 h, md_r20 h, md_k275 h, md_r21 h, md_k276 h, md_r22 h, md_k277 h, md_r23 h, md_k278 h, md_r24 h, md_k279 h, md_r25 h, md_k280 h, md_r26 h, md_k281 h, md_r27 h, md_k282 h, md_r28 h, md_k283 h, md_r29 h, md_k284 h, md_r30 h, md_k285 h, md_r31 h, md_k286 h, md_r33 h, md_k287 h, md_r34 h, md_k288 h, md_r35 h, md_k289 h, md_r36 h, md_k290 h, md_r37 h, md_k291 h, h1, hc, z_ii (show c < 2147483648 by omega) (show c < 2147483648 by omega), Nat.le_refl]
      have key := loop3 (shM c M (I 280) c) H l3
      rw [show iZ ((c : Int) - (0 : Nat)) = nI c from by rw [nI_iZ]; rfl] at key
      exact key
    · intro t B ht hx ih
      have hk1 : ¬ c ≤ t := by omega
      have ht64 : t < 64 := by omega
      have hm := hlt t ht
      simp only [s183_40, s183_41, s183_42, s183_45, s183_48, s183_49, s183_52, s183_53, s183_56, s183_57, s183_58, s183_59, s183_60, s183_61, s183_62, s183_63, hf_bd_v, hf_bd_n, hf_iv_i, hf_iv_l, hf_iv_a, hf_iv_n, hf_iv_2, z_lgl, z_lgg, z_lge, z_lgle, z_lgz, Option.getD_some, Option.isSome_some, ↓reduceIte, not_true_eq_false, not_false_eq_true, Option.toList_some, Option.toList_none, List.cons_append, List.nil_append, Nat.reduceAdd, Nat.add_assoc, ku_ne, ku_same, ne_eq, Nat.reduceEqDiff, reduceCtorEq, Nat.add_eq_left, Nat.left_eq_add, Nat.reduceEqDiff, q10, q_ne, true_or, or_true, md_k h, md_r16 h, md_k271 h, md_r17 h, md_k272 h, md_r18 h, md_k273 h, md_r19 h, md_k274 h, md_r20 h, md_k275 h, md_r21 h, md_k276 h, md_r22 h, md_k277 h, md_r23 h, md_k278 h, md_r24 h, md_k279 h, md_r25 h, md_k280 h, md_r26 h, md_k281 h, md_r27 h, md_k282 h, md_r28 h, md_k283 h, md_r29 h, md_k284 h, md_r30 h, md_k285 h, md_r31 h, md_k286 h, md_r33 h, md_k287 h, md_r34 h, md_k288 h, md_r35 h, md_k289 h, md_r36 h, md_k290 h, md_r37 h, md_k291 h, h1, hc, z_ii (show c < 2147483648 by omega) (show t < 2147483648 by omega), hk1, z_1, z_in (show t < 2147483648 by omega), z_cl (show t < 2147483648 by omega), ht64, decide_true, w3_a, w3_b, w3_ub, hv t ht, z_in (show M t < 2147483648 by omega), z_cl (show M t < 2147483648 by omega), hm]
      rw [s183_66]
      exact ih
  -- the begin
  have loop1 : hf_rn 183 6 [some (.ref 270), some (.int (nI 0)), none, none] [] g (w3 I 279 280 275 F (fun j => if j < 0 then (0 : Int32) else I 280 j) (nwR (I 275) 0 (fun _ => -1))) J = some (.inl none, g, hf_u (w3 I 279 280 275 F (shM c M (I 280) c) (hzM c F (shM c M (I 280) c) (nwR (I 275) c (fun _ => -1)) (c + 1 - l)).2) 276 12 (nI (hzM c F (shM c M (I 280) c) (nwR (I 275) c (fun _ => -1)) (c + 1 - l)).1), J) := by
    refine down (n := c) (s := ()) (f := fun _ _ => ()) (fun t _ => hf_rn 183 6 [some (.ref 270), some (.int (nI t)), none, none] [] g (w3 I 279 280 275 F (fun j => if j < t then (0 : Int32) else I 280 j) (nwR (I 275) t (fun _ => -1))) J = some (.inl none, g, hf_u (w3 I 279 280 275 F (shM c M (I 280) c) (hzM c F (shM c M (I 280) c) (nwR (I 275) c (fun _ => -1)) (c + 1 - l)).2) 276 12 (nI (hzM c F (shM c M (I 280) c) (nwR (I 275) c (fun _ => -1)) (c + 1 - l)).1), J)) ?_ ?_
    · simp only [s183_6, s183_7, s183_8, s183_11, s183_14, s183_15, s183_18, s183_19, s183_20, s183_21, s183_22, s183_25, s183_28, s183_29, s183_30, s183_31, s183_32, s183_38, s183_39, hf_bd_v, hf_bd_n, hf_iv_i, hf_iv_l, hf_iv_a, hf_iv_n, hf_iv_2, z_lgl, z_lgg, z_lge, z_lgle, z_lgz, Option.getD_some, Option.isSome_some, ↓reduceIte, not_true_eq_false, not_false_eq_true, Option.toList_some, Option.toList_none, List.cons_append, List.nil_append, Nat.reduceAdd, Nat.add_assoc, ku_ne, ku_same, ne_eq, Nat.reduceEqDiff, reduceCtorEq, Nat.add_eq_left, Nat.left_eq_add, Nat.reduceEqDiff, q10, q_ne, true_or, or_true, md_k h, md_r16 h, md_k271 h, md_r17 h, md_k272 h, md_r18 h, md_k273 h, md_r19 h, md_k274 h, md_r20 h, md_k275 h, md_r21 h, md_k276 h, md_r22 h, md_k277 h, md_r23 h, md_k278 h, md_r24 h, md_k279 h, md_r25 h, md_k280 h, md_r26 h, md_k281 h, md_r27 h, md_k282 h, md_r28 h, md_k283 h, md_r29 h, md_k284 h, md_r30 h, md_k285 h, md_r31 h, md_k286 h, md_r33 h, md_k287 h, md_r34 h, md_k288 h, md_r35 h, md_k289 h, md_r36 h, md_k290 h, md_r37 h, md_k291 h, h1, hc, z_ii (show c < 2147483648 by omega) (show c < 2147483648 by omega), Nat.le_refl]
      exact loop2 _ _ _
    · intro t _ ht _ ih
      have hk1 : ¬ c ≤ t := by omega
      have e : up (fun j => if j < t then (0 : Int32) else I 280 j) t 0 = fun j => if j < t + 1 then (0 : Int32) else I 280 j := by
        funext y
        unfold up
        by_cases h1 : y = t
        · subst h1; simp
        · simp only [h1, if_false, show (y < t + 1) = (y < t) from by apply propext; omega]
      have e2 : up (nwR (I 275) t (fun _ => -1)) (768 + t) (-1) = nwR (I 275) (t + 1) (fun _ => -1) := nwR_s rfl
      simp only [s183_6, s183_7, s183_8, s183_11, s183_14, s183_15, s183_18, s183_19, s183_20, s183_21, s183_22, s183_25, s183_28, s183_29, s183_30, s183_31, s183_32, hf_bd_v, hf_bd_n, hf_iv_i, hf_iv_l, hf_iv_a, hf_iv_n, hf_iv_2, z_lgl, z_lgg, z_lge, z_lgle, z_lgz, Option.getD_some, Option.isSome_some, ↓reduceIte, not_true_eq_false, not_false_eq_true, Option.toList_some, Option.toList_none, List.cons_append, List.nil_append, Nat.reduceAdd, Nat.add_assoc, ku_ne, ku_same, ne_eq, Nat.reduceEqDiff, reduceCtorEq, Nat.add_eq_left, Nat.left_eq_add, Nat.reduceEqDiff, q10, q_ne, true_or, or_true, md_k h, md_r16 h, md_k271 h, md_r17 h, md_k272 h, md_r18 h, md_k273 h, md_r19 h, md_k274 h, md_r20 h, md_k275 h, md_r21 h, md_k276 h, md_r22 h, md_k277 h, md_r23 h, md_k278 h, md_r24 h, md_k279 h, md_r25 h, md_k280 h, md_r26 h, md_k281 h, md_r27 h, md_k282 h, md_r28 h, md_k283 h, md_r29 h, md_k284 h, md_r30 h, md_k285 h, md_r31 h, md_k286 h, md_r33 h, md_k287 h, md_r34 h, md_k288 h, md_r35 h, md_k289 h, md_r36 h, md_k290 h, md_r37 h, md_k291 h, h1, hc, z_ii (show c < 2147483648 by omega) (show t < 2147483648 by omega), hk1, z_1, ix768, z_in (show t < 2147483648 by omega), z_cl (show t < 2147483648 by omega), show t < 64 by omega, z_in (show 768 + t < 2147483648 by omega), z_cl (show 768 + t < 2147483648 by omega), show 768 + t < 832 by omega, decide_true, w3_ub, w3_uc, e, e2]
      rw [s183_35]
      exact ih
  have e0 : w3 I 279 280 275 F (fun j => if j < 0 then (0 : Int32) else I 280 j) (nwR (I 275) 0 (fun _ => -1)) = hf_w I 279 F := by
    have e1 : (fun j => if j < 0 then (0 : Int32) else I 280 j) = I 280 := by funext y; simp
    rw [e1, nwR_0, w3, kw_id (f := hf_w I 279 F) (by rw [kw_ne (by decide)]), kw_id (f := hf_w I 279 F) (by rw [kw_ne (by decide)])]
  rw [e0] at loop1
  simp only [s183_0, s183_1, s183_4, s183_5, hf_bd_v, hf_bd_n, hf_iv_i, hf_iv_l, hf_iv_a, hf_iv_n, hf_iv_2, z_lgl, z_lgg, z_lge, z_lgle, z_lgz, Option.getD_some, Option.isSome_some, ↓reduceIte, not_true_eq_false, not_false_eq_true, Option.toList_some, Option.toList_none, List.cons_append, List.nil_append, Nat.reduceAdd, Nat.add_assoc, ku_ne, ku_same, ne_eq, Nat.reduceEqDiff, reduceCtorEq, Nat.add_eq_left, Nat.left_eq_add, Nat.reduceEqDiff, q10, q_ne, true_or, or_true, h.1, hrun]
  exact loop1
end
