/-! THE MODEL: marks -/
def smN (f : Nat → Nat) (n : Nat) : Nat := it n 0 fun k s => s + f k
theorem smN_s {f : Nat → Nat} {n : Nat} : smN f (n + 1) = smN f n + f n := rfl
theorem smN_out {f : Nat → Nat} {n i v : Nat} (h : n ≤ i) : smN (up f i v) n = smN f n := by
  induction n with
  | zero => rfl
  | succ n ih => rw [smN_s, smN_s, ih (by omega), up_n (by omega)]
theorem smN_up {f : Nat → Nat} {n i v : Nat} (h : i < n) : smN (up f i v) n + f i = smN f n + v := by
  induction n with
  | zero => omega
  | succ n ih =>
    rw [smN_s, smN_s]
    by_cases e : n = i
    · subst e
      rw [smN_out (Nat.le_refl _), up_s]
      omega
    · rw [up_n e]
      have := ih (by omega)
      omega
/-- one pair is looked at -/
def mkS (L : Nat → Nat → Bool) (a b : Nat) (p : (Nat → Nat) × Bool) : (Nat → Nat) × Bool := if (decide (p.1 b < p.1 a) && L a b) = true then (up p.1 a (p.1 b), true) else p
def mkR (L : Nat → Nat → Bool) (c a : Nat) (p : (Nat → Nat) × Bool) : (Nat → Nat) × Bool := it c p fun b p => mkS L a b p
def mkP (L : Nat → Nat → Bool) (c : Nat) (M : Nat → Nat) : (Nat → Nat) × Bool := it c (M, false) fun a p => mkR L c a p
theorem mkP_inv {L : Nat → Nat → Bool} {c : Nat} (Q : (Nat → Nat) → Prop) {M : Nat → Nat} (h0 : Q M) (h : ∀ N a b, a < c → b < c → N b < N a → L a b = true → Q N → Q (up N a (N b))) : Q (mkP L c M).1 := by
  refine it_inv (fun _ (p : (Nat → Nat) × Bool) => Q p.1) h0 (fun a p ha hp => ?_)
  refine it_inv (fun _ (p : (Nat → Nat) × Bool) => Q p.1) hp (fun b p hb hp => ?_)
  rw [mkS]
  split
  · rename_i hc
    simp only [Bool.and_eq_true, decide_eq_true_eq] at hc
    exact h _ _ _ ha hb hc.1 hc.2 hp
  · exact hp
theorem mkP_dec {L : Nat → Nat → Bool} {c : Nat} {M : Nat → Nat} : smN (mkP L c M).1 c + (if (mkP L c M).2 = true then 1 else 0) ≤ smN M c := by
  refine it_inv (fun _ (p : (Nat → Nat) × Bool) => smN p.1 c + (if p.2 = true then 1 else 0) ≤ smN M c) (Nat.le_refl _) (fun a p ha hp => ?_)
  refine it_inv (fun _ (p : (Nat → Nat) × Bool) => smN p.1 c + (if p.2 = true then 1 else 0) ≤ smN M c) hp (fun b p hb hp => ?_)
  rw [mkS]
  split
  · rename_i hc
    simp only [Bool.and_eq_true, decide_eq_true_eq] at hc
    have := smN_up (f := p.1) (v := p.1 b) ha
    simp only [if_true]
    split at hp <;> omega
  · exact hp
theorem mkP_fix {L : Nat → Nat → Bool} {c : Nat} {M : Nat → Nat} (h : (mkP L c M).2 = false) : (mkP L c M).1 = M ∧ ∀ a b, a < c → b < c → M b < M a → L a b = false := by
  have key : (mkP L c M).2 = false → (mkP L c M).1 = M ∧ ∀ a b, a < c → b < c → M b < M a → L a b = false := by
    refine it_inv (fun k (p : (Nat → Nat) × Bool) => p.2 = false → p.1 = M ∧ ∀ a b, a < k → b < c → M b < M a → L a b = false) (fun _ => ⟨rfl, fun a b ha => absurd ha (by omega)⟩) (fun a p ha hp => ?_)
    have inn : ∀ k, k ≤ c → (it k p (fun b p => mkS L a b p)).2 = false → p.2 = false ∧ (it k p (fun b p => mkS L a b p)).1 = p.1 ∧ ∀ b, b < k → p.1 b < p.1 a → L a b = false := by
      intro k
      induction k with
      | zero => intro _ h; exact ⟨h, rfl, fun b hb => absurd hb (by omega)⟩
      | succ k ih =>
        intro hk h
        rw [it_s] at h ⊢
        rw [mkS] at h ⊢
        split at h
        · cases h
        · rename_i hc
          obtain ⟨h1, h2, h3⟩ := ih (by omega) h
          rw [if_neg hc]
          refine ⟨h1, h2, fun b hb hlt => ?_⟩
          by_cases e : b = k
          · subst e
            rw [h2] at hc
            simp only [hlt, decide_true, Bool.true_and, Bool.not_eq_true] at hc
            exact hc
          · exact h3 b (by omega) hlt
    intro h
    obtain ⟨h1, h2, h3⟩ := inn c (Nat.le_refl _) h
    obtain ⟨h4, h5⟩ := hp h1
    refine ⟨h2.trans h4, fun x b hx hb hlt => ?_⟩
    by_cases e : x = a
    · subst e
      exact h3 b hb (by rw [h4]; exact hlt)
    · exact h5 x b (by omega) hb hlt
  exact key h
def nmM (c : Nat) (M : Nat → Nat) (O : Nat → Int32) : Nat → Int32 := fun j => if j < c then nI (M j) else O j
section
variable {g : hf_G} {I : hf_I} {J : hf_J} {a b c k m n s p q cl : Nat} {u v w : Int64} {i j x y : Int32} {M : Nat → Nat} {O F : Nat → Int32}
theorem nmM_lt (h : k < c) : nmM c M O k = nI (M k) := if_pos h
theorem nmM_up (h : k < c) : up (nmM c M O) k (nI m) = nmM c (up M k m) O := by
  funext y
  unfold up nmM
  by_cases e : y = k
  · subst e; simp [h]
  · simp only [e, if_false]
theorem apI_w : apI (hf_w I 279 F) s a b = apI I s a b := by
  unfold apI
  rw [kw_ne (show 271 ≠ 279 by decide), kw_ne (show 272 ≠ 279 by decide)]
def LkM (I : hf_I) (a b : Nat) : Bool := decide (apI I 12 a b ≤ I 270 5 * I 270 5)
theorem m_ap (h : Md g) (ha : a < 64) (hb : b < 64) : hf_rn 158 0 [some (.ref 270), some (.int 12), some (.int (nI a)), some (.int (nI b))] [] g I J = some (.inl (some (.int (apI I 12 a b))), g, I, J) := m_apart (s := 12) h (by omega) (by omega)
theorem m_pass (h : Md g) (hc : I 270 1 = nI c) (hc2 : c ≤ 64) (hM : ∀ k, k < c → M k ≤ 64) {R : Option hf_R}
    (hR : ∀ l2 l3, hf_rn 182 25 [some (.ref 270), some (.int (bI (mkP (LkM I) c M).2)), l2, l3] [] g (hf_w I 279 (nmM c (mkP (LkM I) c M).1 O)) J = R) :
    ∀ l3, hf_rn 182 33 [some (.ref 270), some (.int (bI false)), some (.int (nI 0)), l3] [] g (hf_w I 279 (nmM c M O)) J = R := by
  have h1 : ∀ F : Nat → Int32, hf_w I 279 F 270 = I 270 := fun F => kw_ne (by decide)
  have hle : ∀ (N : Nat → Nat) a b, (∀ k, k < c → N k ≤ 64) → a < c → b < c → (∀ k, k < c → up N a (N b) k ≤ 64) := by
    intro N a b hN ha hb k hk
    unfold up
    split
    · exact hN b hb
    · exact hN k hk
  have hinv : ∀ t, t ≤ c → ∀ k, k < c → (it t (M, false) fun a p => mkR (LkM I) c a p).1 k ≤ 64 := by
    intro t ht
    refine it_inv (fun _ (p : (Nat → Nat) × Bool) => ∀ k, k < c → p.1 k ≤ 64) hM (fun a p ha hp => ?_)
    refine it_inv (fun _ (p : (Nat → Nat) × Bool) => ∀ k, k < c → p.1 k ≤ 64) hp (fun b p hb hp => ?_)
    rw [mkS]
    split
    · exact hle _ _ _ hp (by omega) hb
    · exact hp
  refine down (n := c) (s := (M, false)) (f := fun a p => mkR (LkM I) c a p) (fun t p => ∀ l3, hf_rn 182 33 [some (.ref 270), some (.int (bI p.2)), some (.int (nI t)), l3] [] g (hf_w I 279 (nmM c p.1 O)) J = R) ?_ ?_
  · intro l3
    simp only [s182_33, s182_34, s182_35, s182_38, s182_41, s182_42, s182_112, hf_bd_v, hf_bd_n, hf_iv_i, hf_iv_l, hf_iv_a, hf_iv_n, hf_iv_2, z_lgl, z_lgg, z_lge, z_lgle, z_lgz, Option.getD_some, Option.isSome_some, ↓reduceIte, not_true_eq_false, not_false_eq_true, Option.toList_some, Option.toList_none, List.cons_append, List.nil_append, Nat.reduceAdd, Nat.add_assoc, ku_ne, ku_same, ne_eq, Nat.reduceEqDiff, reduceCtorEq, Nat.add_eq_left, Nat.left_eq_add, Nat.reduceEqDiff, q10, q_ne, true_or, or_true, md_k h, md_r16 h, md_k271 h, md_r17 h, md_k272 h, md_r18 h, md_k273 h, md_r19 h, md_k274 h, md_r20 h, md_k275 h, md_r21 h, md_k276 h, md_r22 h, md_k277 h, md_r23 h, md_k278 h, md_r24 h, md_k279 h, md_r25 h, md_k280 h, md_r26 h, md_k281 h, md_r27 h, md_k282 h, md_r28 h, md_k283 h, md_r29 h, md_k284 h, md_r30 h, md_k285 h, md_r31 h, md_k286 h, md_r33 h, md_k287 h, md_r34 h, md_k288 h, md_r35 h, md_k289 h, md_r36 h, md_k290 h, md_r37 h, md_k291 h, h1, hc, z_ii (show c < 2147483648 by omega) (show c < 2147483648 by omega), Nat.le_refl]
    exact hR _ _
  · intro t p ht hx ih l3
    have hk1 : ¬ c ≤ t := by omega
    have ht64 : t < 64 := by omega
    have hp0 : ∀ k, k < c → p.1 k ≤ 64 := by rw [hx]; exact hinv t (by omega)
    simp only [s182_33, s182_34, s182_35, s182_38, s182_41, s182_42, hf_bd_v, hf_bd_n, hf_iv_i, hf_iv_l, hf_iv_a, hf_iv_n, hf_iv_2, z_lgl, z_lgg, z_lge, z_lgle, z_lgz, Option.getD_some, Option.isSome_some, ↓reduceIte, not_true_eq_false, not_false_eq_true, Option.toList_some, Option.toList_none, List.cons_append, List.nil_append, Nat.reduceAdd, Nat.add_assoc, ku_ne, ku_same, ne_eq, Nat.reduceEqDiff, reduceCtorEq, Nat.add_eq_left, Nat.left_eq_add, Nat.reduceEqDiff, q10, q_ne, true_or, or_true, md_k h, md_r16 h, md_k271 h, md_r17 h, md_k272 h, md_r18 h, md_k273 h, md_r19 h, md_k274 h, md_r20 h, md_k275 h, md_r21 h, md_k276 h, md_r22 h, md_k277 h, md_r23 h, md_k278 h, md_r24 h, md_k279 h, md_r25 h, md_k280 h, md_r26 h, md_k281 h, md_r27 h, md_k282 h, md_r28 h, md_k283 h, md_r29 h, md_k284 h, md_r30 h, md_k285 h, md_r31 h, md_k286 h, md_r33 h, md_k287 h, md_r34 h, md_k288 h, md_r35 h, md_k289 h, md_r36 h, md_k290 h, md_r37 h, md_k291 h, h1, hc, z_ii (show c < 2147483648 by omega) (show t < 2147483648 by omega), hk1]
    refine down (n := c) (s := p) (f := fun b p => mkS (LkM I) t b p) (fun r y => hf_rn 182 43 [some (.ref 270), some (.int (bI y.2)), some (.int (nI t)), some (.int (nI r))] [] g (hf_w I 279 (nmM c y.1 O)) J = R) ?_ ?_
    · simp only [s182_43, s182_44, s182_45, s182_48, s182_51, s182_52, s182_55, s182_56, s182_57, s182_58, s182_61, s182_62, s182_63, s182_66, s182_67, s182_69, s182_70, s182_71, s182_74, s182_75, s182_78, s182_79, s182_82, s182_83, s182_86, s182_87, s182_90, s182_91, s182_92, s182_95, s182_96, s182_97, s182_98, s182_99, s182_100, s182_103, s182_106, hf_bd_v, hf_bd_n, hf_iv_i, hf_iv_l, hf_iv_a, hf_iv_n, hf_iv_2, z_lgl, z_lgg, z_lge, z_lgle, z_lgz, Option.getD_some, Option.isSome_some, ↓reduceIte, not_true_eq_false, not_false_eq_true, Option.toList_some, Option.toList_none, List.cons_append, List.nil_append, Nat.reduceAdd, Nat.add_assoc, ku_ne, ku_same, ne_eq, Nat.reduceEqDiff, reduceCtorEq, Nat.add_eq_left, Nat.left_eq_add, Nat.reduceEqDiff, q10, q_ne, true_or, or_true, md_k h, md_r16 h, md_k271 h, md_r17 h, md_k272 h, md_r18 h, md_k273 h, md_r19 h, md_k274 h, md_r20 h, md_k275 h, md_r21 h, md_k276 h, md_r22 h, md_k277 h, md_r23 h, md_k278 h, md_r24 h, md_k279 h, md_r25 h, md_k280 h, md_r26 h, md_k281 h, md_r27 h, md_k282 h, md_r28 h, md_k283 h, md_r29 h, md_k284 h, md_r30 h, md_k285 h, md_r31 h, md_k286 h, md_r33 h, md_k287 h, md_r34 h, md_k288 h, md_r35 h, md_k289 h, md_r36 h, md_k290 h, md_r37 h, md_k291 h, h1, hc, z_ii (show c < 2147483648 by omega) (show c < 2147483648 by omega), Nat.le_refl, z_1]
      rw [s182_109]
      exact ih _
    · intro r y hr hy ih2
      have hk2 : ¬ c ≤ r := by omega
      have hr64 : r < 64 := by omega
      have hyy : ∀ k, k < c → y.1 k ≤ 64 := by
        rw [hy]
        refine it_inv (fun _ (p : (Nat → Nat) × Bool) => ∀ k, k < c → p.1 k ≤ 64) hp0 (fun b p hb hp => ?_)
        rw [mkS]
        split
        · exact hle _ _ _ hp (by omega) (by omega)
        · exact hp
      have y1 := hyy t ht
      have y2 := hyy r hr
      obtain ⟨N, e⟩ := y
      dsimp only at y1 y2
      have hlt : (nI (N t) ≤ nI (N r)) = (N t ≤ N r) := z_ii (by omega) (by omega)
      have hap := m_ap (I := hf_w I 279 (nmM c N O)) (J := J) h ht64 hr64
      rw [apI_w] at hap
      have hv1 : nmM c N O t = nI (N t) := nmM_lt ht
      have hv2 : nmM c N O r = nI (N r) := nmM_lt hr
      rw [mkS] at ih2
      by_cases c1 : N t ≤ N r
      · rw [if_neg (by simp; intro hh; omega)] at ih2
        simp only [s182_43, s182_44, s182_45, s182_48, s182_51, s182_52, s182_55, s182_56, s182_57, s182_58, s182_61, s182_62, s182_63, s182_66, s182_67, s182_69, s182_70, s182_71, s182_74, s182_75, s182_78, s182_79, s182_82, s182_83, s182_86, s182_87, s182_90, s182_91, s182_92, s182_95, s182_96, s182_97, s182_98, s182_99, s182_100, hf_bd_v, hf_bd_n, hf_iv_i, hf_iv_l, hf_iv_a, hf_iv_n, hf_iv_2, z_lgl, z_lgg, z_lge, z_lgle, z_lgz, Option.getD_some, Option.isSome_some, ↓reduceIte, not_true_eq_false, not_false_eq_true, Option.toList_some, Option.toList_none, List.cons_append, List.nil_append, Nat.reduceAdd, Nat.add_assoc, ku_ne, ku_same, ne_eq, Nat.reduceEqDiff, reduceCtorEq, Nat.add_eq_left, Nat.left_eq_add, Nat.reduceEqDiff, q10, q_ne, true_or, or_true, md_k h, md_r16 h, md_k271 h, md_r17 h, md_k272 h, md_r18 h, md_k273 h, md_r19 h, md_k274 h, md_r20 h, md_k275 h, md_r21 h, md_k276 h, md_r22 h, md_k277 h, md_r23 h, md_k278 h, md_r24 h, md_k279 h, md_r25 h, md_k280 h, md_r26 h, md_k281 h, md_r27 h, md_k282 h, md_r28 h, md_k283 h, md_r29 h, md_k284 h, md_r30 h, md_k285 h, md_r31 h, md_k286 h, md_r33 h, md_k287 h, md_r34 h, md_k288 h, md_r35 h, md_k289 h, md_r36 h, md_k290 h, md_r37 h, md_k291 h, h1, hc, z_ii (show c < 2147483648 by omega) (show r < 2147483648 by omega), hk2, z_1, kw_row, hv1, hv2, hlt, c1, z_in (show t < 2147483648 by omega), z_cl (show t < 2147483648 by omega), z_in (show r < 2147483648 by omega), z_cl (show r < 2147483648 by omega), ht64, hr64, decide_true]
        rw [s182_103]
        exact ih2
      · by_cases c2 : apI I 12 t r ≤ I 270 5 * I 270 5
        · have c3 : ¬ I 270 5 * I 270 5 < apI I 12 t r := by intro c; exact I_nle c c2
          rw [if_pos (by simp [LkM, c2]; omega)] at ih2
          simp only [s182_43, s182_44, s182_45, s182_48, s182_51, s182_52, s182_55, s182_56, s182_57, s182_58, s182_61, s182_62, s182_63, s182_66, s182_67, s182_69, s182_70, s182_71, s182_74, s182_75, s182_78, s182_79, s182_82, s182_83, s182_86, s182_87, s182_90, s182_91, s182_92, s182_95, s182_96, s182_97, s182_98, s182_99, s182_100, hf_bd_v, hf_bd_n, hf_iv_i, hf_iv_l, hf_iv_a, hf_iv_n, hf_iv_2, z_lgl, z_lgg, z_lge, z_lgle, z_lgz, Option.getD_some, Option.isSome_some, ↓reduceIte, not_true_eq_false, not_false_eq_true, Option.toList_some, Option.toList_none, List.cons_append, List.nil_append, Nat.reduceAdd, Nat.add_assoc, ku_ne, ku_same, ne_eq, Nat.reduceEqDiff, reduceCtorEq, Nat.add_eq_left, Nat.left_eq_add, Nat.reduceEqDiff, q10, q_ne, true_or, or_true, md_k h, md_r16 h, md_k271 h, md_r17 h, md_k272 h, md_r18 h, md_k273 h, md_r19 h, md_k274 h, md_r20 h, md_k275 h, md_r21 h, md_k276 h, md_r22 h, md_k277 h, md_r23 h, md_k278 h, md_r24 h, md_k279 h, md_r25 h, md_k280 h, md_r26 h, md_k281 h, md_r27 h, md_k282 h, md_r28 h, md_k283 h, md_r29 h, md_k284 h, md_r30 h, md_k285 h, md_r31 h, md_k286 h, md_r33 h, md_k287 h, md_r34 h, md_k288 h, md_r35 h, md_k289 h, md_r36 h, md_k290 h, md_r37 h, md_k291 h, h.1, h1, hc, z_ii (show c < 2147483648 by omega) (show r < 2147483648 by omega), hk2, z_1, kw_row, hv1, hv2, hlt, c1, hap, c3, z_in (show t < 2147483648 by omega), z_cl (show t < 2147483648 by omega), z_in (show r < 2147483648 by omega), z_cl (show r < 2147483648 by omega), ht64, hr64, decide_true, kuw, nmM_up ht]
          rw [s182_103]
          exact ih2
        · have c3 : I 270 5 * I 270 5 < apI I 12 t r := by apply Classical.byContradiction; intro c; exact c2 (I_le c)
          rw [if_neg (by simp [LkM, c2])] at ih2
          simp only [s182_43, s182_44, s182_45, s182_48, s182_51, s182_52, s182_55, s182_56, s182_57, s182_58, s182_61, s182_62, s182_63, s182_66, s182_67, s182_69, s182_70, s182_71, s182_74, s182_75, s182_78, s182_79, s182_82, s182_83, s182_86, s182_87, s182_90, s182_91, s182_92, s182_95, s182_96, s182_97, s182_98, s182_99, s182_100, hf_bd_v, hf_bd_n, hf_iv_i, hf_iv_l, hf_iv_a, hf_iv_n, hf_iv_2, z_lgl, z_lgg, z_lge, z_lgle, z_lgz, Option.getD_some, Option.isSome_some, ↓reduceIte, not_true_eq_false, not_false_eq_true, Option.toList_some, Option.toList_none, List.cons_append, List.nil_append, Nat.reduceAdd, Nat.add_assoc, ku_ne, ku_same, ne_eq, Nat.reduceEqDiff, reduceCtorEq, Nat.add_eq_left, Nat.left_eq_add, Nat.reduceEqDiff, q10, q_ne, true_or, or_true, md_k h, md_r16 h, md_k271 h, md_r17 h, md_k272 h, md_r18 h, md_k273 h, md_r19 h, md_k274 h, md_r20 h, md_k275 h, md_r21 h, md_k276 h, md_r22 h, md_k277 h, md_r23 h, md_k278 h, md_r24 h, md_k279 h, md_r25 h, md_k280 h, md_r26 h, md_k281 h, md_r27 h, md_k282 h, md_r28 h, md_k283 h, md_r29 h, md_k284 h, md_r30 h, md_k285 h, md_r31 h, md_k286 h, md_r33 h, md_k287 h, md_r34 h, md_k288 h, md_r35 h, md_k289 h, md_r36 h, md_k290 h, md_r37 h, md_k291 h, h.1, h1, hc, z_ii (show c < 2147483648 by omega) (show r < 2147483648 by omega), hk2, z_1, kw_row, hv1, hv2, hlt, c1, hap, c3, z_in (show t < 2147483648 by omega), z_cl (show t < 2147483648 by omega), z_in (show r < 2147483648 by omega), z_cl (show r < 2147483648 by omega), ht64, hr64, decide_true]
          rw [s182_103]
          exact ih2
/-- what hangs together by links -/
def cnx (L : Nat → Nat → Bool) (c a b : Nat) : Prop := ∀ S : Nat → Prop, S a → (∀ x y, x < c → y < c → S x → L x y = true → S y) → S b
theorem cnx_r {L : Nat → Nat → Bool} : cnx L c a a := fun S h _ => h
theorem cnx_s {L : Nat → Nat → Bool} {d : Nat} (h : cnx L c a b) (hb : b < c) (hd : d < c) (hl : L b d = true) : cnx L c a d := fun S h1 h2 => h2 b d hb hd (h S h1 h2) hl
theorem cnx_t {L : Nat → Nat → Bool} {d : Nat} (h : cnx L c a b) (h2 : cnx L c b d) : cnx L c a d := fun S h3 h4 => h2 S (h S h3 h4) h4
theorem cnx_1 {L : Nat → Nat → Bool} (ha : a < c) (hb : b < c) (hl : L a b = true) : cnx L c a b := fun S h1 h2 => h2 a b ha hb h1 hl
theorem cnx_c {L : Nat → Nat → Bool} (hs : ∀ x y, x < c → y < c → L x y = L y x) (h : cnx L c a b) : cnx L c b a := by
  refine h (fun x => cnx L c x a) cnx_r (fun x y hx hy h1 h2 => ?_)
  exact cnx_t (cnx_1 hy hx (by rw [hs y x hy hx]; exact h2)) h1
/-- marks as they should be: each the lowest that hangs together with it -/
def mkd (L : Nat → Nat → Bool) (c : Nat) (M : Nat → Nat) : Prop := (∀ k, k < c → M k ≤ k ∧ cnx L c k (M k)) ∧ ∀ a b, a < c → b < c → M b < M a → L a b = false
theorem m_marks (h : Md g) (hc : I 270 1 = nI c) (hc2 : c ≤ 64) : ∃ M, mkd (LkM I) c M ∧ hf_rn 182 0 [some (.ref 270), none, none, none] [] g I J = some (.inl none, g, hf_w I 279 (nmM c M (I 279)), J) := by
  have h1 : ∀ F : Nat → Int32, hf_w I 279 F 270 = I 270 := fun F => kw_ne (by decide)
  have whl : ∀ (d : Nat) (N : Nat → Nat), smN N c ≤ d → (∀ k, k < c → N k ≤ k ∧ cnx (LkM I) c k (N k)) → ∃ M, mkd (LkM I) c M ∧ ∀ l2 l3, hf_rn 182 25 [some (.ref 270), some (.int (bI true)), l2, l3] [] g (hf_w I 279 (nmM c N (I 279))) J = some (.inl none, g, hf_w I 279 (nmM c M (I 279)), J) := by
    intro d
    induction d with
    | zero =>
      intro N hd hN
      have hf : (mkP (LkM I) c N).2 = false := by
        have := @mkP_dec (LkM I) c N
        cases e : (mkP (LkM I) c N).2
        · rfl
        · rw [e] at this; simp at this; omega
      obtain ⟨e1, e2⟩ := mkP_fix hf
      refine ⟨N, ⟨hN, e2⟩, fun l2 l3 => ?_⟩
      have key := m_pass (J := J) (O := I 279) (M := N) (R := some (.inl none, g, hf_w I 279 (nmM c N (I 279)), J)) h hc hc2 (fun k hk => by have := (hN k hk).1; omega) (fun l2 l3 => by
        rw [hf, e1]
        simp only [s182_25, s182_26, s182_115, hf_bd_v, hf_bd_n, hf_iv_i, hf_iv_l, hf_iv_a, hf_iv_n, hf_iv_2, z_lgl, z_lgg, z_lge, z_lgle, z_lgz, Option.getD_some, Option.isSome_some, ↓reduceIte, not_true_eq_false, not_false_eq_true, Option.toList_some, Option.toList_none, List.cons_append, List.nil_append, Nat.reduceAdd, Nat.add_assoc, ku_ne, ku_same, ne_eq, Nat.reduceEqDiff, reduceCtorEq, Nat.add_eq_left, Nat.left_eq_add, Nat.reduceEqDiff, q10, q_ne, true_or, or_true, bI, Bool.false_eq_true]) l3
      simp only [s182_25, s182_26, s182_29, s182_30, s182_31, s182_32, hf_bd_v, hf_bd_n, hf_iv_i, hf_iv_l, hf_iv_a, hf_iv_n, hf_iv_2, z_lgl, z_lgg, z_lge, z_lgle, z_lgz, Option.getD_some, Option.isSome_some, ↓reduceIte, not_true_eq_false, not_false_eq_true, Option.toList_some, Option.toList_none, List.cons_append, List.nil_append, Nat.reduceAdd, Nat.add_assoc, ku_ne, ku_same, ne_eq, Nat.reduceEqDiff, reduceCtorEq, Nat.add_eq_left, Nat.left_eq_add, Nat.reduceEqDiff, q10, q_ne, true_or, or_true, bI]
      exact key
    | succ d ih =>
      intro N hd hN
      have hdec := @mkP_dec (LkM I) c N
      cases hf : (mkP (LkM I) c N).2
      · obtain ⟨e1, e2⟩ := mkP_fix hf
        refine ⟨N, ⟨hN, e2⟩, fun l2 l3 => ?_⟩
        have key := m_pass (J := J) (O := I 279) (M := N) (R := some (.inl none, g, hf_w I 279 (nmM c N (I 279)), J)) h hc hc2 (fun k hk => by have := (hN k hk).1; omega) (fun l2 l3 => by
          rw [hf, e1]
          simp only [s182_25, s182_26, s182_115, hf_bd_v, hf_bd_n, hf_iv_i, hf_iv_l, hf_iv_a, hf_iv_n, hf_iv_2, z_lgl, z_lgg, z_lge, z_lgle, z_lgz, Option.getD_some, Option.isSome_some, ↓reduceIte, not_true_eq_false, not_false_eq_true, Option.toList_some, Option.toList_none, List.cons_append, List.nil_append, Nat.reduceAdd, Nat.add_assoc, ku_ne, ku_same, ne_eq, Nat.reduceEqDiff, reduceCtorEq, Nat.add_eq_left, Nat.left_eq_add, Nat.reduceEqDiff, q10, q_ne, true_or, or_true, bI, Bool.false_eq_true]) l3
        simp only [s182_25, s182_26, s182_29, s182_30, s182_31, s182_32, hf_bd_v, hf_bd_n, hf_iv_i, hf_iv_l, hf_iv_a, hf_iv_n, hf_iv_2, z_lgl, z_lgg, z_lge, z_lgle, z_lgz, Option.getD_some, Option.isSome_some, ↓reduceIte, not_true_eq_false, not_false_eq_true, Option.toList_some, Option.toList_none, List.cons_append, List.nil_append, Nat.reduceAdd, Nat.add_assoc, ku_ne, ku_same, ne_eq, Nat.reduceEqDiff, reduceCtorEq, Nat.add_eq_left, Nat.left_eq_add, Nat.reduceEqDiff, q10, q_ne, true_or, or_true, bI]
        exact key
      · rw [hf] at hdec
        simp only [if_true] at hdec
        obtain ⟨M, hM, hrun⟩ := ih (mkP (LkM I) c N).1 (by omega) (mkP_inv (fun N => ∀ k, k < c → N k ≤ k ∧ cnx (LkM I) c k (N k)) hN (fun N a b ha hb hlt hl hN k hk => by
          unfold up
          by_cases e : k = a
          · subst e
            rw [if_pos rfl]
            have q1 := hN k hk
            have q2 := hN b hb
            exact ⟨by omega, cnx_t (cnx_1 hk hb hl) q2.2⟩
          · rw [if_neg e]
            exact hN k hk))
        refine ⟨M, hM, fun l2 l3 => ?_⟩
        have key := m_pass (J := J) (O := I 279) (M := N) (R := some (.inl none, g, hf_w I 279 (nmM c M (I 279)), J)) h hc hc2 (fun k hk => by have := (hN k hk).1; omega) (fun l2 l3 => by
          rw [hf]
          exact hrun l2 l3) l3
        simp only [s182_25, s182_26, s182_29, s182_30, s182_31, s182_32, hf_bd_v, hf_bd_n, hf_iv_i, hf_iv_l, hf_iv_a, hf_iv_n, hf_iv_2, z_lgl, z_lgg, z_lge, z_lgle, z_lgz, Option.getD_some, Option.isSome_some, ↓reduceIte, not_true_eq_false, not_false_eq_true, Option.toList_some, Option.toList_none, List.cons_append, List.nil_append, Nat.reduceAdd, Nat.add_assoc, ku_ne, ku_same, ne_eq, Nat.reduceEqDiff, reduceCtorEq, Nat.add_eq_left, Nat.left_eq_add, Nat.reduceEqDiff, q10, q_ne, true_or, or_true, bI]
        exact key
  obtain ⟨M, hM, hrun⟩ := whl (smN (fun k => k) c) (fun k => k) (Nat.le_refl _) (fun k hk => ⟨Nat.le_refl _, cnx_r⟩)
  refine ⟨M, hM, ?_⟩
  have loop : hf_rn 182 2 [some (.ref 270), some (.int (nI 0)), none, none] [] g (hf_w I 279 (nmM 0 (fun k => k) (I 279))) J = some (.inl none, g, hf_w I 279 (nmM c M (I 279)), J) := by
    refine down (n := c) (s := ()) (f := fun _ _ => ()) (fun t _ => hf_rn 182 2 [some (.ref 270), some (.int (nI t)), none, none] [] g (hf_w I 279 (nmM t (fun k => k) (I 279))) J = some (.inl none, g, hf_w I 279 (nmM c M (I 279)), J)) ?_ ?_
    · simp only [s182_2, s182_3, s182_4, s182_7, s182_10, s182_11, s182_14, s182_15, s182_16, s182_17, s182_23, s182_24, hf_bd_v, hf_bd_n, hf_iv_i, hf_iv_l, hf_iv_a, hf_iv_n, hf_iv_2, z_lgl, z_lgg, z_lge, z_lgle, z_lgz, Option.getD_some, Option.isSome_some, ↓reduceIte, not_true_eq_false, not_false_eq_true, Option.toList_some, Option.toList_none, List.cons_append, List.nil_append, Nat.reduceAdd, Nat.add_assoc, ku_ne, ku_same, ne_eq, Nat.reduceEqDiff, reduceCtorEq, Nat.add_eq_left, Nat.left_eq_add, Nat.reduceEqDiff, q10, q_ne, true_or, or_true, md_k h, md_r16 h, md_k271 h, md_r17 h, md_k272 h, md_r18 h, md_k273 h, md_r19 h, md_k274 h, md_r20 h, md_k275 h, md_r21 h, md_k276 h, md_r22 h, md_k277 h, md_r23 h, md_k278 h, md_r24 h, md_k279 h, md_r25 h, md_k280 h, md_r26 h, md_k281 h, md_r27 h, md_k282 h, md_r28 h, md_k283 h, md_r29 h, md_k284 h, md_r30 h, md_k285 h, md_r31 h, md_k286 h, md_r33 h, md_k287 h, md_r34 h, md_k288 h, md_r35 h, md_k289 h, md_r36 h, md_k290 h, md_r37 h, md_k291 h, h1, hc, z_ii (show c < 2147483648 by omega) (show c < 2147483648 by omega), Nat.le_refl]
      exact hrun _ _
    · intro t _ ht _ ih
      have hk1 : ¬ c ≤ t := by omega
      have e : up (nmM t (fun k => k) (I 279)) t (nI t) = nmM (t + 1) (fun k => k) (I 279) := by
        funext y
        unfold up nmM
        by_cases h1 : y = t
        · subst h1; simp
        · simp only [h1, if_false, show (y < t + 1) = (y < t) from by apply propext; omega]
      simp only [s182_2, s182_3, s182_4, s182_7, s182_10, s182_11, s182_14, s182_15, s182_16, s182_17, hf_bd_v, hf_bd_n, hf_iv_i, hf_iv_l, hf_iv_a, hf_iv_n, hf_iv_2, z_lgl, z_lgg, z_lge, z_lgle, z_lgz, Option.getD_some, Option.isSome_some, ↓reduceIte, not_true_eq_false, not_false_eq_true, Option.toList_some, Option.toList_none, List.cons_append, List.nil_append, Nat.reduceAdd, Nat.add_assoc, ku_ne, ku_same, ne_eq, Nat.reduceEqDiff, reduceCtorEq, Nat.add_eq_left, Nat.left_eq_add, Nat.reduceEqDiff, q10, q_ne, true_or, or_true, md_k h, md_r16 h, md_k271 h, md_r17 h, md_k272 h, md_r18 h, md_k273 h, md_r19 h, md_k274 h, md_r20 h, md_k275 h, md_r21 h, md_k276 h, md_r22 h, md_k277 h, md_r23 h, md_k278 h, md_r24 h, md_k279 h, md_r25 h, md_k280 h, md_r26 h, md_k281 h, md_r27 h, md_k282 h, md_r28 h, md_k283 h, md_r29 h, md_k284 h, md_r30 h, md_k285 h, md_r31 h, md_k286 h, md_r33 h, md_k287 h, md_r34 h, md_k288 h, md_r35 h, md_k289 h, md_r36 h, md_k290 h, md_r37 h, md_k291 h, h1, hc, z_ii (show c < 2147483648 by omega) (show t < 2147483648 by omega), hk1, z_1, z_in (show t < 2147483648 by omega), z_cl (show t < 2147483648 by omega), show t < 64 by omega, decide_true, kuw, e]
      rw [s182_20]
      exact ih
  have e0 : hf_w I 279 (nmM 0 (fun k => k) (I 279)) = I := kw_id (by funext y; rw [nmM, if_neg (by omega)])
  rw [e0] at loop
  simp only [s182_0, s182_1, hf_bd_v, hf_bd_n, hf_iv_i, hf_iv_l, hf_iv_a, hf_iv_n, hf_iv_2, z_lgl, z_lgg, z_lge, z_lgle, z_lgz, Option.getD_some, Option.isSome_some, ↓reduceIte, not_true_eq_false, not_false_eq_true, Option.toList_some, Option.toList_none, List.cons_append, List.nil_append, Nat.reduceAdd, Nat.add_assoc, ku_ne, ku_same, ne_eq, Nat.reduceEqDiff, reduceCtorEq, Nat.add_eq_left, Nat.left_eq_add, Nat.reduceEqDiff, q10, q_ne, true_or, or_true]
  exact loop
end
