/-! THE MODEL: voids -/
/-- passes over a row of pairs -/
def mkQ (L : Nat → Nat → Bool) (fa fb : Nat → Nat) (N : Nat) (M : Nat → Nat) : (Nat → Nat) × Bool := it N (M, false) fun k p => mkS L (fa k) (fb k) p
section
variable {L : Nat → Nat → Bool} {fa fb : Nat → Nat} {N c : Nat} {M : Nat → Nat}
theorem mkQ_inv (Q : (Nat → Nat) → Prop) (h0 : Q M) (h : ∀ N k, N (fb k) < N (fa k) → L (fa k) (fb k) = true → Q N → Q (up N (fa k) (N (fb k)))) : Q (mkQ L fa fb N M).1 := by
  refine it_inv (fun _ (p : (Nat → Nat) × Bool) => Q p.1) h0 (fun k p hk hp => ?_)
  rw [mkS]
  split
  · rename_i hc
    simp only [Bool.and_eq_true, decide_eq_true_eq] at hc
    exact h _ _ hc.1 hc.2 hp
  · exact hp
theorem mkQ_dec (hfa : ∀ k, k < N → fa k < c) : smN (mkQ L fa fb N M).1 c + (if (mkQ L fa fb N M).2 = true then 1 else 0) ≤ smN M c := by
  refine it_inv (fun _ (p : (Nat → Nat) × Bool) => smN p.1 c + (if p.2 = true then 1 else 0) ≤ smN M c) (Nat.le_refl _) (fun k p hk hp => ?_)
  rw [mkS]
  split
  · rename_i hc
    simp only [Bool.and_eq_true, decide_eq_true_eq] at hc
    have := smN_up (f := p.1) (v := p.1 (fb k)) (hfa k hk)
    simp only [if_true]
    split at hp <;> omega
  · exact hp
theorem mkQ_fix : ∀ n, (mkQ L fa fb n M).2 = false → (mkQ L fa fb n M).1 = M ∧ ∀ k, k < n → M (fb k) < M (fa k) → L (fa k) (fb k) = false := by
  intro n
  induction n with
  | zero => intro _; exact ⟨rfl, fun k hk => absurd hk (by omega)⟩
  | succ n ih =>
    intro h
    rw [mkQ, it_s, ← mkQ] at h ⊢
    rw [mkS] at h ⊢
    split at h
    · cases h
    · rename_i hc
      obtain ⟨h2, h3⟩ := ih h
      rw [if_neg hc]
      refine ⟨h2, fun k hk hlt => ?_⟩
      by_cases e : k = n
      · subst e
        rw [h2] at hc
        simp only [hlt, decide_true, Bool.true_and, Bool.not_eq_true] at hc
        exact hc
      · exact h3 k (by omega) hlt
end
def bsN (a s : Nat) : Nat := if s = 0 then (a / 8 + 1) % 8 * 8 + a % 8 else if s = 1 then (a / 8 + 7) % 8 * 8 + a % 8 else if s = 2 then a / 8 * 8 + (a % 8 + 1) % 8 else a / 8 * 8 + (a % 8 + 7) % 8
theorem bsN_ok : ∀ a, a < 64 → ∀ s, s < 4 → bsI (nI a) (nI s) = nI (bsN a s) ∧ bsN a s < 64 := by decide +kernel
def adV (a b : Nat) : Bool := decide (b = bsN a 0) || (decide (b = bsN a 1) || (decide (b = bsN a 2) || decide (b = bsN a 3)))
theorem adV_bs {a s : Nat} (h : s < 4) : adV a (bsN a s) = true := by
  unfold adV
  match s, h with
  | 0, _ => simp
  | 1, _ => simp
  | 2, _ => simp
  | 3, _ => simp
theorem adV_ex {a b : Nat} (h : adV a b = true) : ∃ s, s < 4 ∧ b = bsN a s := by
  unfold adV at h
  simp only [Bool.or_eq_true, decide_eq_true_eq] at h
  rcases h with h | h | h | h
  · exact ⟨0, by decide, h⟩
  · exact ⟨1, by decide, h⟩
  · exact ⟨2, by decide, h⟩
  · exact ⟨3, by decide, h⟩
/-- cells without grains that lie side by side -/
def LV (E : Nat → Bool) (a b : Nat) : Bool := E a && (E b && adV a b)
def eV (vc : Nat → Nat) (c : Nat) : Nat → Bool := it c (fun _ => true) fun k E => up E (vc k) false
def vmR (E : Nat → Bool) (M : Nat → Nat) (O : Nat → Int32) : Nat → Int32 := fun j => if j < 64 then (if E j = true then nI (M j) else -1) else O j
def vxS (E : Nat → Bool) (M : Nat → Nat) (k : Nat) (q : (Nat → Int32) × Int32) : (Nat → Int32) × Int32 := if E k = true then (up q.1 (M k) (q.1 (M k) + 1), if q.1 (M k) + 1 ≤ q.2 then q.2 else q.1 (M k) + 1) else q
def vxF (E : Nat → Bool) (M : Nat → Nat) (O : Nat → Int32) (t : Nat) : (Nat → Int32) × Int32 := it t ((fun j => if j < 64 then 0 else O j), 0) (vxS E M)
section
variable {g : hf_G} {I I2 : hf_I} {J : hf_J} {a b c k l m n s p q cl P : Nat} {u v w : Int64} {i j x y : Int32} {S B F H O : Nat → Int32} {K : hf_I} {E : Nat → Bool} {M : Nat → Nat}
theorem vmR_t (h : k < 64) (he : E k = true) : vmR E M O k = nI (M k) := by rw [vmR, if_pos h, if_pos he]
theorem vmR_f (h : k < 64) (he : E k = false) : vmR E M O k = -1 := by rw [vmR, if_pos h, he]; rfl
theorem m_voidCells (h : Md g) (hc : I 270 1 = nI c) (hc2 : c ≤ 64) (vc : Nat → Nat) (hv : ∀ m, m < c → vc m < 64 ∧ I 271 (768 + m) / 512 * 8 + I 272 (768 + m) / 512 = nI (vc m)) :
    ∃ M, mkd (LV (eV vc c)) 64 M ∧ hf_rn 223 0 [some (.ref 270), none, none, none] [] g I J = some (.inl (some (.int (vxF (eV vc c) M (I 280) 64).2)), g, w2 (hf_u I 270 38 0) 279 280 (vmR (eV vc c) M (I 279)) (vxF (eV vc c) M (I 280) 64).1, J) := by
  obtain ⟨K, hK⟩ : ∃ K, K = hf_u I 270 38 0 := ⟨_, rfl⟩
  have hK1 : K 270 1 = nI c := by rw [hK, ku_ix (by decide), hc]
  have hKX : K 271 = I 271 := by rw [hK, ku_ne (by decide)]
  have hKY : K 272 = I 272 := by rw [hK, ku_ne (by decide)]
  have hKm : K 279 = I 279 := by rw [hK, ku_ne (by decide)]
  have hKs : K 280 = I 280 := by rw [hK, ku_ne (by decide)]
  have h1 : ∀ F G : Nat → Int32, w2 K 279 280 F G 270 = K 270 := fun F G => w2_n (by decide) (by decide)
  have h2 : ∀ F G : Nat → Int32, w2 K 279 280 F G 271 = I 271 := fun F G => by rw [w2_n (by decide) (by decide), hKX]
  have h3 : ∀ F G : Nat → Int32, w2 K 279 280 F G 272 = I 272 := fun F G => by rw [w2_n (by decide) (by decide), hKY]
  rw [← hK]
  -- the end: counted
  have cnt : ∀ (E : Nat → Bool) (M : Nat → Nat) (l1 l2 l3 : Option Value), (∀ k, k < 64 → M k < 64) → hf_rn 223 154 [some (.ref 270), l1, l2, l3] [] g (w2 K 279 280 (vmR E M (I 279)) (fun j => if j < 64 then 0 else I 280 j)) J = some (.inl (some (.int (vxF E M (I 280) 64).2)), g, w2 K 279 280 (vmR E M (I 279)) (vxF E M (I 280) 64).1, J) := by
    intro E M l1 l2 l3 hM
    have loop : hf_rn 223 158 [some (.ref 270), hf_iv l1, some (.int 0), some (.int (nI 0))] [] g (w2 K 279 280 (vmR E M (I 279)) (fun j => if j < 64 then 0 else I 280 j)) J = some (.inl (some (.int (vxF E M (I 280) 64).2)), g, w2 K 279 280 (vmR E M (I 279)) (vxF E M (I 280) 64).1, J) := by
      refine down (n := 64) (s := ((fun j => if j < 64 then (0 : Int32) else I 280 j), (0 : Int32))) (f := vxS E M) (fun t q => hf_rn 223 158 [some (.ref 270), hf_iv l1, some (.int q.2), some (.int (nI t))] [] g (w2 K 279 280 (vmR E M (I 279)) q.1) J = some (.inl (some (.int (vxF E M (I 280) 64).2)), g, w2 K 279 280 (vmR E M (I 279)) (vxF E M (I 280) 64).1, J)) ?_ ?_
      · have h64 : (64 : Int32) ≤ nI 64 := by decide
        simp only [s223_158, s223_159, s223_161, s223_164, s223_165, s223_168, s223_169, s223_170, s223_171, s223_174, s223_175, s223_178, s223_179, s223_182, s223_183, s223_184, s223_185, s223_186, s223_187, s223_188, s223_189, s223_190, s223_193, s223_194, s223_197, s223_198, s223_199, s223_200, s223_201, s223_204, s223_205, s223_208, s223_209, s223_212, s223_213, s223_214, s223_215, s223_218, s223_219, s223_220, s223_226, s223_227, hf_bd_v, hf_bd_n, hf_iv_i, hf_iv_l, hf_iv_a, hf_iv_n, hf_iv_2, z_lgl, z_lgg, z_lge, z_lgle, z_lgz, Option.getD_some, Option.isSome_some, ↓reduceIte, not_true_eq_false, not_false_eq_true, Option.toList_some, Option.toList_none, List.cons_append, List.nil_append, Nat.reduceAdd, Nat.add_assoc, ku_ne, ku_same, ne_eq, Nat.reduceEqDiff, reduceCtorEq, Nat.add_eq_left, Nat.left_eq_add, Nat.reduceEqDiff, q10, q_ne, true_or, or_true, h64]
        rfl
      · intro t q ht hx ih
        have h64 : ((64 : Int32) ≤ nI t) = (64 ≤ t) := z_ii (a := 64) (by decide) (by omega)
        have hk1 : ¬ 64 ≤ t := by omega
        obtain ⟨G, z⟩ := q
        unfold vxS at ih
        cases he : E t
        · rw [he] at ih
          have hr := vmR_f (M := M) (O := I 279) ht he
          simp only [s223_158, s223_159, s223_161, s223_164, s223_165, s223_168, s223_169, s223_170, s223_171, s223_174, s223_175, s223_178, s223_179, s223_182, s223_183, s223_184, s223_185, s223_186, s223_187, s223_188, s223_189, s223_190, s223_193, s223_194, s223_197, s223_198, s223_199, s223_200, s223_201, s223_204, s223_205, s223_208, s223_209, s223_212, s223_213, s223_214, s223_215, s223_218, s223_219, s223_220, hf_bd_v, hf_bd_n, hf_iv_i, hf_iv_l, hf_iv_a, hf_iv_n, hf_iv_2, z_lgl, z_lgg, z_lge, z_lgle, z_lgz, Option.getD_some, Option.isSome_some, ↓reduceIte, not_true_eq_false, not_false_eq_true, Option.toList_some, Option.toList_none, List.cons_append, List.nil_append, Nat.reduceAdd, Nat.add_assoc, ku_ne, ku_same, ne_eq, Nat.reduceEqDiff, reduceCtorEq, Nat.add_eq_left, Nat.left_eq_add, Nat.reduceEqDiff, q10, q_ne, true_or, or_true, md_k h, md_r16 h, md_k271 h, md_r17 h, md_k272 h, md_r18 h, md_k273 h, md_r19 h, md_k274 h, md_r20 h, md_k275 h, md_r21 h, md_k276 h, md_r22 h, md_k277 h, md_r23 h, md_k278 h, md_r24 h, md_k279 h, md_r25 h, md_k280 h, md_r26 h, md_k281 h, md_r27 h, md_k282 h, md_r28 h, md_k283 h, md_r29 h, md_k284 h, md_r30 h, md_k285 h, md_r31 h, md_k286 h, md_r33 h, md_k287 h, md_r34 h, md_k288 h, md_r35 h, md_k289 h, md_r36 h, md_k290 h, md_r37 h, md_k291 h, h64, hk1, w2_a, hr, z_in (show t < 2147483648 by omega), z_cl (show t < 2147483648 by omega), ht, decide_true, z_1]
          rw [s223_223]
          exact ih
        · rw [he] at ih
          have hr := vmR_t (M := M) (O := I 279) ht he
          have hMt := hM t ht
          have hnl : ¬ nI (M t) = -1 := by rw [nI_iZ, show (-1 : Int32) = iZ (-1) from rfl, iZ_eq (iRs (by omega) (by omega)) (iRs (by omega) (by omega))]; omega
          simp only [if_true] at ih
          by_cases c1 : G (M t) + 1 ≤ z
          · rw [if_pos c1] at ih
            simp only [s223_158, s223_159, s223_161, s223_164, s223_165, s223_168, s223_169, s223_170, s223_171, s223_174, s223_175, s223_178, s223_179, s223_182, s223_183, s223_184, s223_185, s223_186, s223_187, s223_188, s223_189, s223_190, s223_193, s223_194, s223_197, s223_198, s223_199, s223_200, s223_201, s223_204, s223_205, s223_208, s223_209, s223_212, s223_213, s223_214, s223_215, s223_218, s223_219, s223_220, hf_bd_v, hf_bd_n, hf_iv_i, hf_iv_l, hf_iv_a, hf_iv_n, hf_iv_2, z_lgl, z_lgg, z_lge, z_lgle, z_lgz, Option.getD_some, Option.isSome_some, ↓reduceIte, not_true_eq_false, not_false_eq_true, Option.toList_some, Option.toList_none, List.cons_append, List.nil_append, Nat.reduceAdd, Nat.add_assoc, ku_ne, ku_same, ne_eq, Nat.reduceEqDiff, reduceCtorEq, Nat.add_eq_left, Nat.left_eq_add, Nat.reduceEqDiff, q10, q_ne, true_or, or_true, md_k h, md_r16 h, md_k271 h, md_r17 h, md_k272 h, md_r18 h, md_k273 h, md_r19 h, md_k274 h, md_r20 h, md_k275 h, md_r21 h, md_k276 h, md_r22 h, md_k277 h, md_r23 h, md_k278 h, md_r24 h, md_k279 h, md_r25 h, md_k280 h, md_r26 h, md_k281 h, md_r27 h, md_k282 h, md_r28 h, md_k283 h, md_r29 h, md_k284 h, md_r30 h, md_k285 h, md_r31 h, md_k286 h, md_r33 h, md_k287 h, md_r34 h, md_k288 h, md_r35 h, md_k289 h, md_r36 h, md_k290 h, md_r37 h, md_k291 h, h64, hk1, w2_a, w2_b, w2_ub, hr, hnl, up_s, c1, z_in (show t < 2147483648 by omega), z_cl (show t < 2147483648 by omega), ht, z_in (show M t < 2147483648 by omega), z_cl (show M t < 2147483648 by omega), hMt, decide_true, z_1]
            rw [s223_223]
            exact ih
          · rw [if_neg c1] at ih
            simp only [s223_158, s223_159, s223_161, s223_164, s223_165, s223_168, s223_169, s223_170, s223_171, s223_174, s223_175, s223_178, s223_179, s223_182, s223_183, s223_184, s223_185, s223_186, s223_187, s223_188, s223_189, s223_190, s223_193, s223_194, s223_197, s223_198, s223_199, s223_200, s223_201, s223_204, s223_205, s223_208, s223_209, s223_212, s223_213, s223_214, s223_215, s223_218, s223_219, s223_220, hf_bd_v, hf_bd_n, hf_iv_i, hf_iv_l, hf_iv_a, hf_iv_n, hf_iv_2, z_lgl, z_lgg, z_lge, z_lgle, z_lgz, Option.getD_some, Option.isSome_some, ↓reduceIte, not_true_eq_false, not_false_eq_true, Option.toList_some, Option.toList_none, List.cons_append, List.nil_append, Nat.reduceAdd, Nat.add_assoc, ku_ne, ku_same, ne_eq, Nat.reduceEqDiff, reduceCtorEq, Nat.add_eq_left, Nat.left_eq_add, Nat.reduceEqDiff, q10, q_ne, true_or, or_true, md_k h, md_r16 h, md_k271 h, md_r17 h, md_k272 h, md_r18 h, md_k273 h, md_r19 h, md_k274 h, md_r20 h, md_k275 h, md_r21 h, md_k276 h, md_r22 h, md_k277 h, md_r23 h, md_k278 h, md_r24 h, md_k279 h, md_r25 h, md_k280 h, md_r26 h, md_k281 h, md_r27 h, md_k282 h, md_r28 h, md_k283 h, md_r29 h, md_k284 h, md_r30 h, md_k285 h, md_r31 h, md_k286 h, md_r33 h, md_k287 h, md_r34 h, md_k288 h, md_r35 h, md_k289 h, md_r36 h, md_k290 h, md_r37 h, md_k291 h, h64, hk1, w2_a, w2_b, w2_ub, hr, hnl, up_s, c1, z_in (show t < 2147483648 by omega), z_cl (show t < 2147483648 by omega), ht, z_in (show M t < 2147483648 by omega), z_cl (show M t < 2147483648 by omega), hMt, decide_true, z_1]
            rw [s223_223]
            exact ih
    simp only [s223_154, s223_155, s223_156, s223_157, hf_bd_v, hf_bd_n, hf_iv_i, hf_iv_l, hf_iv_a, hf_iv_n, hf_iv_2, z_lgl, z_lgg, z_lge, z_lgle, z_lgz, Option.getD_some, Option.isSome_some, ↓reduceIte, not_true_eq_false, not_false_eq_true, Option.toList_some, Option.toList_none, List.cons_append, List.nil_append, Nat.reduceAdd, Nat.add_assoc, ku_ne, ku_same, ne_eq, Nat.reduceEqDiff, reduceCtorEq, Nat.add_eq_left, Nat.left_eq_add, Nat.reduceEqDiff, q10, q_ne, true_or, or_true]
    exact loop
  -- one pass
  have pass : ∀ (E : Nat → Bool) (M : Nat → Nat) (G : Nat → Int32) (Rs : Option hf_R) (l3 : Option Value), (∀ k, k < 64 → M k < 64) →
      (∀ l2 l3, hf_rn 223 87 [some (.ref 270), some (.int (bI (mkQ (LV E) (fun k => k / 4) (fun k => bsN (k / 4) (k % 4)) 256 M).2)), l2, l3] [] g (w2 K 279 280 (vmR E (mkQ (LV E) (fun k => k / 4) (fun k => bsN (k / 4) (k % 4)) 256 M).1 (I 279)) G) J = Rs) →
      hf_rn 223 95 [some (.ref 270), some (.int (bI false)), some (.int (nI 0)), l3] [] g (w2 K 279 280 (vmR E M (I 279)) G) J = Rs := by
    intro E M G Rs l3 hM hR
    have hle : ∀ t, ∀ k, k < 64 → (it t (M, false) fun k p => mkS (LV E) (k / 4) (bsN (k / 4) (k % 4)) p).1 k < 64 := by
      intro t
      exact mkQ_inv (L := LV E) (fa := fun k => k / 4) (fb := fun k => bsN (k / 4) (k % 4)) (N := t) (M := M) (fun N => ∀ k, k < 64 → N k < 64) hM (fun N k hlt _ hN j hj => by
        unfold up
        split
        · rename_i e
          have := hN j hj
          rw [e] at this
          omega
        · exact hN j hj)
    refine down (n := 256) (s := (M, false)) (f := fun k p => mkS (LV E) (k / 4) (bsN (k / 4) (k % 4)) p) (fun t p => ∀ l3, hf_rn 223 95 [some (.ref 270), some (.int (bI p.2)), some (.int (nI t)), l3] [] g (w2 K 279 280 (vmR E p.1 (I 279)) G) J = Rs) ?_ ?_ l3
    · intro l3
      have h64 : (256 : Int32) ≤ nI 256 := by decide
      simp only [s223_95, s223_96, s223_99, s223_102, s223_103, s223_106, s223_107, s223_108, s223_109, s223_110, s223_111, s223_112, s223_115, s223_116, s223_117, s223_118, s223_119, s223_122, s223_123, s223_124, s223_127, s223_128, s223_129, s223_130, s223_131, s223_134, s223_135, s223_138, s223_139, s223_140, s223_141, s223_142, s223_143, s223_144, s223_145, s223_151, hf_bd_v, hf_bd_n, hf_iv_i, hf_iv_l, hf_iv_a, hf_iv_n, hf_iv_2, z_lgl, z_lgg, z_lge, z_lgle, z_lgz, Option.getD_some, Option.isSome_some, ↓reduceIte, not_true_eq_false, not_false_eq_true, Option.toList_some, Option.toList_none, List.cons_append, List.nil_append, Nat.reduceAdd, Nat.add_assoc, ku_ne, ku_same, ne_eq, Nat.reduceEqDiff, reduceCtorEq, Nat.add_eq_left, Nat.left_eq_add, Nat.reduceEqDiff, q10, q_ne, true_or, or_true, h64]
      exact hR _ _
    · intro t p ht hx ih l3
      have h64 : ((256 : Int32) ≤ nI t) = (256 ≤ t) := z_ii (a := 256) (by decide) (by omega)
      have hk1 : ¬ 256 ≤ t := by omega
      have hp0 : ∀ k, k < 64 → p.1 k < 64 := by rw [hx]; exact hle t
      obtain ⟨N, e⟩ := p
      dsimp only at hp0 ih ⊢
      have ha : t / 4 < 64 := by omega
      have hs : t % 4 < 4 := by omega
      obtain ⟨bs1, bs2⟩ := bsN_ok (t / 4) ha (t % 4) hs
      have hadj := adV_bs (a := t / 4) hs
      have hdv : nI t / 4 = nI (t / 4) := nI_dv (b := 4) (by omega) (by decide)
      have hrm : nI t - nI (t / 4) * 4 = nI (t % 4) := nI_rm (b := 4) (by omega) (by decide)
      have hbs := @m_beside g (w2 K 279 280 (vmR E N (I 279)) G) J (nI (t / 4)) (nI (t % 4))
      rw [bs1] at hbs
      generalize bsN (t / 4) (t % 4) = b at *
      have q1 := hp0 (t / 4) ha
      have q2 := hp0 b bs2
      rw [mkS] at ih
      cases hb : E b
      · rw [if_neg (by simp [LV, hb])] at ih
        have hr := vmR_f (M := N) (O := I 279) bs2 hb
        simp only [s223_95, s223_96, s223_99, s223_102, s223_103, s223_106, s223_107, s223_108, s223_109, s223_110, s223_111, s223_112, s223_115, s223_116, s223_117, s223_118, s223_119, s223_122, s223_123, s223_124, s223_127, s223_128, s223_129, s223_130, s223_131, s223_134, s223_135, s223_138, s223_139, s223_140, s223_141, s223_142, s223_143, s223_144, s223_145, hf_bd_v, hf_bd_n, hf_iv_i, hf_iv_l, hf_iv_a, hf_iv_n, hf_iv_2, z_lgl, z_lgg, z_lge, z_lgle, z_lgz, Option.getD_some, Option.isSome_some, ↓reduceIte, not_true_eq_false, not_false_eq_true, Option.toList_some, Option.toList_none, List.cons_append, List.nil_append, Nat.reduceAdd, Nat.add_assoc, ku_ne, ku_same, ne_eq, Nat.reduceEqDiff, reduceCtorEq, Nat.add_eq_left, Nat.left_eq_add, Nat.reduceEqDiff, q10, q_ne, true_or, or_true, md_k h, md_r16 h, md_k271 h, md_r17 h, md_k272 h, md_r18 h, md_k273 h, md_r19 h, md_k274 h, md_r20 h, md_k275 h, md_r21 h, md_k276 h, md_r22 h, md_k277 h, md_r23 h, md_k278 h, md_r24 h, md_k279 h, md_r25 h, md_k280 h, md_r26 h, md_k281 h, md_r27 h, md_k282 h, md_r28 h, md_k283 h, md_r29 h, md_k284 h, md_r30 h, md_k285 h, md_r31 h, md_k286 h, md_r33 h, md_k287 h, md_r34 h, md_k288 h, md_r35 h, md_k289 h, md_r36 h, md_k290 h, md_r37 h, md_k291 h, h64, hk1, qi4, hdv, hrm, hbs, w2_a, hr, z_in (show b < 2147483648 by omega), z_cl (show b < 2147483648 by omega), bs2, decide_true, z_1]
        rw [s223_148]
        exact ih _
      · have hr := vmR_t (M := N) (O := I 279) bs2 hb
        have hnl : ¬ nI (N b) = -1 := by rw [nI_iZ, show (-1 : Int32) = iZ (-1) from rfl, iZ_eq (iRs (by omega) (by omega)) (iRs (by omega) (by omega))]; omega
        cases ha2 : E (t / 4)
        · rw [if_neg (by simp [LV, ha2])] at ih
          have hr2 := vmR_f (M := N) (O := I 279) ha ha2
          have hlt : (-1 : Int32) ≤ nI (N b) := by rw [nI_iZ, show (-1 : Int32) = iZ (-1) from rfl, iZ_le (iRs (by omega) (by omega)) (iRs (by omega) (by omega))]; omega
          simp only [s223_95, s223_96, s223_99, s223_102, s223_103, s223_106, s223_107, s223_108, s223_109, s223_110, s223_111, s223_112, s223_115, s223_116, s223_117, s223_118, s223_119, s223_122, s223_123, s223_124, s223_127, s223_128, s223_129, s223_130, s223_131, s223_134, s223_135, s223_138, s223_139, s223_140, s223_141, s223_142, s223_143, s223_144, s223_145, hf_bd_v, hf_bd_n, hf_iv_i, hf_iv_l, hf_iv_a, hf_iv_n, hf_iv_2, z_lgl, z_lgg, z_lge, z_lgle, z_lgz, Option.getD_some, Option.isSome_some, ↓reduceIte, not_true_eq_false, not_false_eq_true, Option.toList_some, Option.toList_none, List.cons_append, List.nil_append, Nat.reduceAdd, Nat.add_assoc, ku_ne, ku_same, ne_eq, Nat.reduceEqDiff, reduceCtorEq, Nat.add_eq_left, Nat.left_eq_add, Nat.reduceEqDiff, q10, q_ne, true_or, or_true, md_k h, md_r16 h, md_k271 h, md_r17 h, md_k272 h, md_r18 h, md_k273 h, md_r19 h, md_k274 h, md_r20 h, md_k275 h, md_r21 h, md_k276 h, md_r22 h, md_k277 h, md_r23 h, md_k278 h, md_r24 h, md_k279 h, md_r25 h, md_k280 h, md_r26 h, md_k281 h, md_r27 h, md_k282 h, md_r28 h, md_k283 h, md_r29 h, md_k284 h, md_r30 h, md_k285 h, md_r31 h, md_k286 h, md_r33 h, md_k287 h, md_r34 h, md_k288 h, md_r35 h, md_k289 h, md_r36 h, md_k290 h, md_r37 h, md_k291 h, h64, hk1, qi4, hdv, hrm, hbs, w2_a, hr, hr2, hnl, hlt, z_in (show b < 2147483648 by omega), z_cl (show b < 2147483648 by omega), bs2, z_in (show t / 4 < 2147483648 by omega), z_cl (show t / 4 < 2147483648 by omega), ha, decide_true, z_1]
          rw [s223_148]
          exact ih _
        · have hr2 := vmR_t (M := N) (O := I 279) ha ha2
          have hlt : (nI (N (t / 4)) ≤ nI (N b)) = (N (t / 4) ≤ N b) := z_ii (by omega) (by omega)
          by_cases c1 : N (t / 4) ≤ N b
          · rw [if_neg (by simp; omega)] at ih
            simp only [s223_95, s223_96, s223_99, s223_102, s223_103, s223_106, s223_107, s223_108, s223_109, s223_110, s223_111, s223_112, s223_115, s223_116, s223_117, s223_118, s223_119, s223_122, s223_123, s223_124, s223_127, s223_128, s223_129, s223_130, s223_131, s223_134, s223_135, s223_138, s223_139, s223_140, s223_141, s223_142, s223_143, s223_144, s223_145, hf_bd_v, hf_bd_n, hf_iv_i, hf_iv_l, hf_iv_a, hf_iv_n, hf_iv_2, z_lgl, z_lgg, z_lge, z_lgle, z_lgz, Option.getD_some, Option.isSome_some, ↓reduceIte, not_true_eq_false, not_false_eq_true, Option.toList_some, Option.toList_none, List.cons_append, List.nil_append, Nat.reduceAdd, Nat.add_assoc, ku_ne, ku_same, ne_eq, Nat.reduceEqDiff, reduceCtorEq, Nat.add_eq_left, Nat.left_eq_add, Nat.reduceEqDiff, q10, q_ne, true_or, or_true, md_k h, md_r16 h, md_k271 h, md_r17 h, md_k272 h, md_r18 h, md_k273 h, md_r19 h, md_k274 h, md_r20 h, md_k275 h, md_r21 h, md_k276 h, md_r22 h, md_k277 h, md_r23 h, md_k278 h, md_r24 h, md_k279 h, md_r25 h, md_k280 h, md_r26 h, md_k281 h, md_r27 h, md_k282 h, md_r28 h, md_k283 h, md_r29 h, md_k284 h, md_r30 h, md_k285 h, md_r31 h, md_k286 h, md_r33 h, md_k287 h, md_r34 h, md_k288 h, md_r35 h, md_k289 h, md_r36 h, md_k290 h, md_r37 h, md_k291 h, h64, hk1, qi4, hdv, hrm, hbs, w2_a, hr, hr2, hnl, hlt, c1, z_in (show b < 2147483648 by omega), z_cl (show b < 2147483648 by omega), bs2, z_in (show t / 4 < 2147483648 by omega), z_cl (show t / 4 < 2147483648 by omega), ha, decide_true, z_1]
            rw [s223_148]
            exact ih _
          · rw [if_pos (by simp [LV, hb, ha2, hadj]; omega)] at ih
            have hup : up (vmR E N (I 279)) (t / 4) (nI (N b)) = vmR E (up N (t / 4) (N b)) (I 279) := by
              funext y
              unfold up vmR
              by_cases e : y = t / 4
              · subst e; simp [ha, ha2]
              · simp only [e, if_false]
            simp only [s223_95, s223_96, s223_99, s223_102, s223_103, s223_106, s223_107, s223_108, s223_109, s223_110, s223_111, s223_112, s223_115, s223_116, s223_117, s223_118, s223_119, s223_122, s223_123, s223_124, s223_127, s223_128, s223_129, s223_130, s223_131, s223_134, s223_135, s223_138, s223_139, s223_140, s223_141, s223_142, s223_143, s223_144, s223_145, hf_bd_v, hf_bd_n, hf_iv_i, hf_iv_l, hf_iv_a, hf_iv_n, hf_iv_2, z_lgl, z_lgg, z_lge, z_lgle, z_lgz, Option.getD_some, Option.isSome_some, ↓reduceIte, not_true_eq_false, not_false_eq_true, Option.toList_some, Option.toList_none, List.cons_append, List.nil_append, Nat.reduceAdd, Nat.add_assoc, ku_ne, ku_same, ne_eq, Nat.reduceEqDiff, reduceCtorEq, Nat.add_eq_left, Nat.left_eq_add, Nat.reduceEqDiff, q10, q_ne, true_or, or_true, md_k h, md_r16 h, md_k271 h, md_r17 h, md_k272 h, md_r18 h, md_k273 h, md_r19 h, md_k274 h, md_r20 h, md_k275 h, md_r21 h, md_k276 h, md_r22 h, md_k277 h, md_r23 h, md_k278 h, md_r24 h, md_k279 h, md_r25 h, md_k280 h, md_r26 h, md_k281 h, md_r27 h, md_k282 h, md_r28 h, md_k283 h, md_r29 h, md_k284 h, md_r30 h, md_k285 h, md_r31 h, md_k286 h, md_r33 h, md_k287 h, md_r34 h, md_k288 h, md_r35 h, md_k289 h, md_r36 h, md_k290 h, md_r37 h, md_k291 h, h64, hk1, qi4, hdv, hrm, hbs, w2_a, w2_ua, hup, hr, hr2, hnl, hlt, c1, z_in (show b < 2147483648 by omega), z_cl (show b < 2147483648 by omega), bs2, z_in (show t / 4 < 2147483648 by omega), z_cl (show t / 4 < 2147483648 by omega), ha, decide_true, z_1]
            rw [s223_148]
            exact ih _
  -- the passes
  have whl : ∀ (E : Nat → Bool) (d : Nat) (N : Nat → Nat), smN N 64 ≤ d → (∀ k, k < 64 → N k ≤ k ∧ cnx (LV E) 64 k (N k)) → ∃ M, mkd (LV E) 64 M ∧ ∀ l2 l3, hf_rn 223 87 [some (.ref 270), some (.int (bI true)), l2, l3] [] g (w2 K 279 280 (vmR E N (I 279)) (fun j => if j < 64 then 0 else I 280 j)) J = some (.inl (some (.int (vxF E M (I 280) 64).2)), g, w2 K 279 280 (vmR E M (I 279)) (vxF E M (I 280) 64).1, J) := by
    intro E d
    have stop : ∀ (N : Nat → Nat), (∀ k, k < 64 → N k ≤ k ∧ cnx (LV E) 64 k (N k)) → (mkQ (LV E) (fun k => k / 4) (fun k => bsN (k / 4) (k % 4)) 256 N).2 = false → ∃ M, mkd (LV E) 64 M ∧ ∀ l2 l3, hf_rn 223 87 [some (.ref 270), some (.int (bI true)), l2, l3] [] g (w2 K 279 280 (vmR E N (I 279)) (fun j => if j < 64 then 0 else I 280 j)) J = some (.inl (some (.int (vxF E M (I 280) 64).2)), g, w2 K 279 280 (vmR E M (I 279)) (vxF E M (I 280) 64).1, J) := by
      intro N hN hf
      obtain ⟨e1, e2⟩ := mkQ_fix 256 hf
      refine ⟨N, ⟨hN, fun a b ha hb hlt => ?_⟩, fun l2 l3 => ?_⟩
      · cases hadj : adV a b
        · rw [LV, hadj]; simp
        · obtain ⟨s, hs, rfl⟩ := adV_ex hadj
          have := e2 (4 * a + s) (by omega)
          rw [show (4 * a + s) / 4 = a by omega, show (4 * a + s) % 4 = s by omega] at this
          exact this hlt
      · have key := pass E N (fun j => if j < 64 then 0 else I 280 j) (some (.inl (some (.int (vxF E N (I 280) 64).2)), g, w2 K 279 280 (vmR E N (I 279)) (vxF E N (I 280) 64).1, J)) l3 (fun k hk => by have := (hN k hk).1; omega) (fun l2 l3 => by
          rw [hf, e1]
          have := cnt E N (some (.int 0)) l2 l3 (fun k hk => by have := (hN k hk).1; omega)
          simp only [s223_87, s223_88, s223_91, s223_92, s223_93, s223_94, hf_bd_v, hf_bd_n, hf_iv_i, hf_iv_l, hf_iv_a, hf_iv_n, hf_iv_2, z_lgl, z_lgg, z_lge, z_lgle, z_lgz, Option.getD_some, Option.isSome_some, ↓reduceIte, not_true_eq_false, not_false_eq_true, Option.toList_some, Option.toList_none, List.cons_append, List.nil_append, Nat.reduceAdd, Nat.add_assoc, ku_ne, ku_same, ne_eq, Nat.reduceEqDiff, reduceCtorEq, Nat.add_eq_left, Nat.left_eq_add, Nat.reduceEqDiff, q10, q_ne, true_or, or_true, bI, Bool.false_eq_true]
          exact this)
        simp only [s223_87, s223_88, s223_91, s223_92, s223_93, s223_94, hf_bd_v, hf_bd_n, hf_iv_i, hf_iv_l, hf_iv_a, hf_iv_n, hf_iv_2, z_lgl, z_lgg, z_lge, z_lgle, z_lgz, Option.getD_some, Option.isSome_some, ↓reduceIte, not_true_eq_false, not_false_eq_true, Option.toList_some, Option.toList_none, List.cons_append, List.nil_append, Nat.reduceAdd, Nat.add_assoc, ku_ne, ku_same, ne_eq, Nat.reduceEqDiff, reduceCtorEq, Nat.add_eq_left, Nat.left_eq_add, Nat.reduceEqDiff, q10, q_ne, true_or, or_true, bI]
        exact key
    induction d with
    | zero =>
      intro N hd hN
      have hf : (mkQ (LV E) (fun k => k / 4) (fun k => bsN (k / 4) (k % 4)) 256 N).2 = false := by
        have := @mkQ_dec (LV E) (fun k => k / 4) (fun k => bsN (k / 4) (k % 4)) 256 64 N (fun k hk => by omega)
        cases e : (mkQ (LV E) (fun k => k / 4) (fun k => bsN (k / 4) (k % 4)) 256 N).2
        · rfl
        · rw [e] at this; simp at this; omega
      exact stop N hN hf
    | succ d ih =>
      intro N hd hN
      have hdec := @mkQ_dec (LV E) (fun k => k / 4) (fun k => bsN (k / 4) (k % 4)) 256 64 N (fun k hk => by omega)
      cases hf : (mkQ (LV E) (fun k => k / 4) (fun k => bsN (k / 4) (k % 4)) 256 N).2
      · exact stop N hN hf
      · rw [hf] at hdec
        simp only [if_true] at hdec
        obtain ⟨M, hM, hrun⟩ := ih (mkQ (LV E) (fun k => k / 4) (fun k => bsN (k / 4) (k % 4)) 256 N).1 (by omega) (by
          rw [mkQ]
          refine it_inv (fun _ (p : (Nat → Nat) × Bool) => ∀ k, k < 64 → p.1 k ≤ k ∧ cnx (LV E) 64 k (p.1 k)) hN (fun t p ht hp => ?_)
          rw [mkS]
          split
          · rename_i hc
            simp only [Bool.and_eq_true, decide_eq_true_eq] at hc
            intro k hk
            dsimp only
            unfold up
            by_cases e : k = t / 4
            · rw [if_pos e]
              have hb64 := (bsN_ok (t / 4) (by omega) (t % 4) (by omega)).2
              have q1 := hp k hk
              have q2 := hp _ hb64
              rw [← e] at hc q2 hb64 ⊢
              exact ⟨by omega, cnx_t (cnx_1 hk hb64 hc.2) q2.2⟩
            · rw [if_neg e]
              exact hp k hk
          · exact hp)
        refine ⟨M, hM, fun l2 l3 => ?_⟩
        have key := pass E N (fun j => if j < 64 then 0 else I 280 j) (some (.inl (some (.int (vxF E M (I 280) 64).2)), g, w2 K 279 280 (vmR E M (I 279)) (vxF E M (I 280) 64).1, J)) l3 (fun k hk => by have := (hN k hk).1; omega) (fun l2 l3 => by
          rw [hf]
          exact hrun l2 l3)
        simp only [s223_87, s223_88, s223_91, s223_92, s223_93, s223_94, hf_bd_v, hf_bd_n, hf_iv_i, hf_iv_l, hf_iv_a, hf_iv_n, hf_iv_2, z_lgl, z_lgg, z_lge, z_lgle, z_lgz, Option.getD_some, Option.isSome_some, ↓reduceIte, not_true_eq_false, not_false_eq_true, Option.toList_some, Option.toList_none, List.cons_append, List.nil_append, Nat.reduceAdd, Nat.add_assoc, ku_ne, ku_same, ne_eq, Nat.reduceEqDiff, reduceCtorEq, Nat.add_eq_left, Nat.left_eq_add, Nat.reduceEqDiff, q10, q_ne, true_or, or_true, bI]
        exact key
  obtain ⟨M, hM, hrun⟩ := whl (eV vc c) (smN (fun k => k) 64) (fun k => k) (Nat.le_refl _) (fun k hk => ⟨Nat.le_refl _, cnx_r⟩)
  refine ⟨M, hM, ?_⟩
  -- cells with grains
  have loop2 : hf_rn 223 37 [some (.ref 270), some (.int (nI (768 + 0))), none, none] [] g (w2 K 279 280 (vmR (eV vc 0) (fun k => k) (I 279)) (fun j => if j < 64 then 0 else I 280 j)) J = some (.inl (some (.int (vxF (eV vc c) M (I 280) 64).2)), g, w2 K 279 280 (vmR (eV vc c) M (I 279)) (vxF (eV vc c) M (I 280) 64).1, J) := by
    refine down (n := c) (s := fun _ => true) (f := fun k E => up E (vc k) false) (fun t E => hf_rn 223 37 [some (.ref 270), some (.int (nI (768 + t))), none, none] [] g (w2 K 279 280 (vmR E (fun k => k) (I 279)) (fun j => if j < 64 then 0 else I 280 j)) J = some (.inl (some (.int (vxF (eV vc c) M (I 280) 64).2)), g, w2 K 279 280 (vmR (eV vc c) M (I 279)) (vxF (eV vc c) M (I 280) 64).1, J)) ?_ ?_
    · simp only [s223_37, s223_38, s223_41, s223_42, s223_45, s223_46, s223_49, s223_50, s223_53, s223_54, s223_57, s223_58, s223_59, s223_62, s223_63, s223_65, s223_66, s223_67, s223_70, s223_71, s223_72, s223_75, s223_76, s223_77, s223_78, s223_79, s223_85, s223_86, hf_bd_v, hf_bd_n, hf_iv_i, hf_iv_l, hf_iv_a, hf_iv_n, hf_iv_2, z_lgl, z_lgg, z_lge, z_lgle, z_lgz, Option.getD_some, Option.isSome_some, ↓reduceIte, not_true_eq_false, not_false_eq_true, Option.toList_some, Option.toList_none, List.cons_append, List.nil_append, Nat.reduceAdd, Nat.add_assoc, ku_ne, ku_same, ne_eq, Nat.reduceEqDiff, reduceCtorEq, Nat.add_eq_left, Nat.left_eq_add, Nat.reduceEqDiff, q10, q_ne, true_or, or_true, md_k h, md_r16 h, md_k271 h, md_r17 h, md_k272 h, md_r18 h, md_k273 h, md_r19 h, md_k274 h, md_r20 h, md_k275 h, md_r21 h, md_k276 h, md_r22 h, md_k277 h, md_r23 h, md_k278 h, md_r24 h, md_k279 h, md_r25 h, md_k280 h, md_r26 h, md_k281 h, md_r27 h, md_k282 h, md_r28 h, md_k283 h, md_r29 h, md_k284 h, md_r30 h, md_k285 h, md_r31 h, md_k286 h, md_r33 h, md_k287 h, md_r34 h, md_k288 h, md_r35 h, md_k289 h, md_r36 h, md_k290 h, md_r37 h, md_k291 h, h1, hK1, ix768, z_ii (show 768 + c < 2147483648 by omega) (show 768 + c < 2147483648 by omega), Nat.le_refl]
      exact hrun _ _
    · intro t E ht hx ih
      have hk1 : ¬ 768 + c ≤ 768 + t := by omega
      obtain ⟨v1, v2⟩ := hv t ht
      have hup : up (vmR E (fun k => k) (I 279)) (vc t) (-1) = vmR (up E (vc t) false) (fun k => k) (I 279) := by
        funext y
        unfold up vmR
        by_cases e : y = vc t
        · subst e; simp [v1]
        · simp only [e, if_false]
      have q512 : ¬ (512 : Int32) = 0 := by decide
      simp only [s223_37, s223_38, s223_41, s223_42, s223_45, s223_46, s223_49, s223_50, s223_53, s223_54, s223_57, s223_58, s223_59, s223_62, s223_63, s223_65, s223_66, s223_67, s223_70, s223_71, s223_72, s223_75, s223_76, s223_77, s223_78, s223_79, hf_bd_v, hf_bd_n, hf_iv_i, hf_iv_l, hf_iv_a, hf_iv_n, hf_iv_2, z_lgl, z_lgg, z_lge, z_lgle, z_lgz, Option.getD_some, Option.isSome_some, ↓reduceIte, not_true_eq_false, not_false_eq_true, Option.toList_some, Option.toList_none, List.cons_append, List.nil_append, Nat.reduceAdd, Nat.add_assoc, ku_ne, ku_same, ne_eq, Nat.reduceEqDiff, reduceCtorEq, Nat.add_eq_left, Nat.left_eq_add, Nat.reduceEqDiff, q10, q_ne, true_or, or_true, md_k h, md_r16 h, md_k271 h, md_r17 h, md_k272 h, md_r18 h, md_k273 h, md_r19 h, md_k274 h, md_r20 h, md_k275 h, md_r21 h, md_k276 h, md_r22 h, md_k277 h, md_r23 h, md_k278 h, md_r24 h, md_k279 h, md_r25 h, md_k280 h, md_r26 h, md_k281 h, md_r27 h, md_k282 h, md_r28 h, md_k283 h, md_r29 h, md_k284 h, md_r30 h, md_k285 h, md_r31 h, md_k286 h, md_r33 h, md_k287 h, md_r34 h, md_k288 h, md_r35 h, md_k289 h, md_r36 h, md_k290 h, md_r37 h, md_k291 h, h1, h2, h3, hK1, ix768, z_ii (show 768 + c < 2147483648 by omega) (show 768 + t < 2147483648 by omega), hk1, z_in (show 768 + t < 2147483648 by omega), z_cl (show 768 + t < 2147483648 by omega), show 768 + t < 832 by omega, q512, v2, z_in (show vc t < 2147483648 by omega), z_cl (show vc t < 2147483648 by omega), v1, decide_true, w2_ua, hup, z_1]
      rw [s223_82]
      exact ih
  have loop1 : hf_rn 223 7 [some (.ref 270), some (.int (nI 0)), none, none] [] g (w2 K 279 280 (fun j => if j < 0 then nI j else I 279 j) (fun j => if j < 0 then 0 else I 280 j)) J = some (.inl (some (.int (vxF (eV vc c) M (I 280) 64).2)), g, w2 K 279 280 (vmR (eV vc c) M (I 279)) (vxF (eV vc c) M (I 280) 64).1, J) := by
    refine down (n := 64) (s := ()) (f := fun _ _ => ()) (fun t _ => hf_rn 223 7 [some (.ref 270), some (.int (nI t)), none, none] [] g (w2 K 279 280 (fun j => if j < t then nI j else I 279 j) (fun j => if j < t then 0 else I 280 j)) J = some (.inl (some (.int (vxF (eV vc c) M (I 280) 64).2)), g, w2 K 279 280 (vmR (eV vc c) M (I 279)) (vxF (eV vc c) M (I 280) 64).1, J)) ?_ ?_
    · have h64 : (64 : Int32) ≤ nI 64 := by decide
      have e0 : (fun j => if j < 64 then nI j else I 279 j) = vmR (eV vc 0) (fun k => k) (I 279) := rfl
      simp only [s223_7, s223_8, s223_10, s223_13, s223_14, s223_17, s223_18, s223_19, s223_20, s223_21, s223_24, s223_25, s223_26, s223_27, s223_33, s223_36, hf_bd_v, hf_bd_n, hf_iv_i, hf_iv_l, hf_iv_a, hf_iv_n, hf_iv_2, z_lgl, z_lgg, z_lge, z_lgle, z_lgz, Option.getD_some, Option.isSome_some, ↓reduceIte, not_true_eq_false, not_false_eq_true, Option.toList_some, Option.toList_none, List.cons_append, List.nil_append, Nat.reduceAdd, Nat.add_assoc, ku_ne, ku_same, ne_eq, Nat.reduceEqDiff, reduceCtorEq, Nat.add_eq_left, Nat.left_eq_add, Nat.reduceEqDiff, q10, q_ne, true_or, or_true, h64, e0]
      exact loop2
    · intro t _ ht _ ih
      have h64 : ((64 : Int32) ≤ nI t) = (64 ≤ t) := z_ii (a := 64) (by decide) (by omega)
      have hk1 : ¬ 64 ≤ t := by omega
      have e1 : up (fun j => if j < t then nI j else I 279 j) t (nI t) = fun j => if j < t + 1 then nI j else I 279 j := by
        funext y
        unfold up
        by_cases h1 : y = t
        · subst h1; simp
        · simp only [h1, if_false, show (y < t + 1) = (y < t) from by apply propext; omega]
      have e2 : up (fun j => if j < t then (0 : Int32) else I 280 j) t 0 = fun j => if j < t + 1 then (0 : Int32) else I 280 j := by
        funext y
        unfold up
        by_cases h1 : y = t
        · subst h1; simp
        · simp only [h1, if_false, show (y < t + 1) = (y < t) from by apply propext; omega]
      simp only [s223_7, s223_8, s223_10, s223_13, s223_14, s223_17, s223_18, s223_19, s223_20, s223_21, s223_24, s223_25, s223_26, s223_27, hf_bd_v, hf_bd_n, hf_iv_i, hf_iv_l, hf_iv_a, hf_iv_n, hf_iv_2, z_lgl, z_lgg, z_lge, z_lgle, z_lgz, Option.getD_some, Option.isSome_some, ↓reduceIte, not_true_eq_false, not_false_eq_true, Option.toList_some, Option.toList_none, List.cons_append, List.nil_append, Nat.reduceAdd, Nat.add_assoc, ku_ne, ku_same, ne_eq, Nat.reduceEqDiff, reduceCtorEq, Nat.add_eq_left, Nat.left_eq_add, Nat.reduceEqDiff, q10, q_ne, true_or, or_true, md_k h, md_r16 h, md_k271 h, md_r17 h, md_k272 h, md_r18 h, md_k273 h, md_r19 h, md_k274 h, md_r20 h, md_k275 h, md_r21 h, md_k276 h, md_r22 h, md_k277 h, md_r23 h, md_k278 h, md_r24 h, md_k279 h, md_r25 h, md_k280 h, md_r26 h, md_k281 h, md_r27 h, md_k282 h, md_r28 h, md_k283 h, md_r29 h, md_k284 h, md_r30 h, md_k285 h, md_r31 h, md_k286 h, md_r33 h, md_k287 h, md_r34 h, md_k288 h, md_r35 h, md_k289 h, md_r36 h, md_k290 h, md_r37 h, md_k291 h, h64, hk1, z_in (show t < 2147483648 by omega), z_cl (show t < 2147483648 by omega), ht, decide_true, w2_ua, w2_ub, e1, e2, z_1]
      rw [s223_30]
      exact ih
  have e0 : w2 K 279 280 (fun j => if j < 0 then nI j else I 279 j) (fun j => if j < 0 then 0 else I 280 j) = K := by
    have e1 : (fun j => if j < 0 then nI j else I 279 j) = K 279 := by rw [hKm]; funext y; simp
    have e2 : (fun j => if j < 0 then (0 : Int32) else I 280 j) = K 280 := by rw [hKs]; funext y; simp
    rw [e1, e2, w2_self (by decide)]
  rw [e0, hK] at loop1
  rw [hK]
  simp only [s223_0, s223_1, s223_2, s223_5, s223_6, hf_bd_v, hf_bd_n, hf_iv_i, hf_iv_l, hf_iv_a, hf_iv_n, hf_iv_2, z_lgl, z_lgg, z_lge, z_lgle, z_lgz, Option.getD_some, Option.isSome_some, ↓reduceIte, not_true_eq_false, not_false_eq_true, Option.toList_some, Option.toList_none, List.cons_append, List.nil_append, Nat.reduceAdd, Nat.add_assoc, ku_ne, ku_same, ne_eq, Nat.reduceEqDiff, reduceCtorEq, Nat.add_eq_left, Nat.left_eq_add, Nat.reduceEqDiff, q10, q_ne, true_or, or_true, md_k h, md_r16 h, md_k271 h, md_r17 h, md_k272 h, md_r18 h, md_k273 h, md_r19 h, md_k274 h, md_r20 h, md_k275 h, md_r21 h, md_k276 h, md_r22 h, md_k277 h, md_r23 h, md_k278 h, md_r24 h, md_k279 h, md_r25 h, md_k280 h, md_r26 h, md_k281 h, md_r27 h, md_k282 h, md_r28 h, md_k283 h, md_r29 h, md_k284 h, md_r30 h, md_k285 h, md_r31 h, md_k286 h, md_r33 h, md_k287 h, md_r34 h, md_k288 h, md_r35 h, md_k289 h, md_r36 h, md_k290 h, md_r37 h, md_k291 h]
  exact loop1
end
