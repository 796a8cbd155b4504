/-! THE MODEL'S FACE: bound, keep, trees, galaxies, the sky -/
theorem it_sh {α : Type} {f : α → α} : ∀ (n : Nat) (s : α), it (n + 1) s (fun _ x => f x) = it n (f s) (fun _ x => f x) := by
  intro n
  induction n with
  | zero => intro s; rfl
  | succ n ih => intro s; rw [it_s, ih s, it_s]
section
variable {g : hf_G} {I I2 K : hf_I} {J J2 : hf_J} {S a b c d k l m n s p q P t cl : Nat} {u v w q64 : Int64} {i j x y : Int32} {cn : Nat → Nat} {M : Nat → Nat} {F : Nat → Int32}
def nzB (F : Nat → Int32) (k : Nat) : Bool := decide (¬ F k = 0)
theorem wtM_n : ∀ n, (wtM I J s n).2.2 = nI (ctB (nzB (I 281)) n) := by
  intro n
  induction n with
  | zero => rfl
  | succ n ih =>
    rw [wtM, it_s, ← wtM, ctB_s]
    by_cases c1 : I 281 n = 0
    · rw [if_pos c1, if_neg (by simp [nzB, c1]), ← ih]
      dsimp only
      exact Int32.add_zero _
    · rw [if_neg c1, if_pos (by simp [nzB, c1]), ← z_1, ← ih]
theorem wtM_z (hc2 : c ≤ 64) : ∀ k, k < c → ¬ I 281 k = 0 → ¬ (wtM I J s c).2.2.toInt64 = 0 := by
  intro k hk hi
  rw [wtM_n]
  have h1 := @ctB_le (nzB (I 281)) c
  have h2 := ctB_pos (p := nzB (I 281)) (k := k) (by simp [nzB, hi]) c hk
  rw [nI_ll (by omega), show (0 : Int64) = lZ 0 from rfl, lZ_eq ⟨by omega, by omega⟩ ⟨by omega, by omega⟩]
  omega
theorem wsM_k : ∀ t, 0 ≤ (it t ((0 : Int64), (-1 : Int32)) fun k p => if woM I J s c k ≤ p.1 then p else (woM I J s c k, nI k)).1 ∧ ((it t ((0 : Int64), (-1 : Int32)) fun k p => if woM I J s c k ≤ p.1 then p else (woM I J s c k, nI k)).2 = -1 ∨ ∃ k, k < t ∧ ¬ I 281 k = 0 ∧ (it t ((0 : Int64), (-1 : Int32)) fun k p => if woM I J s c k ≤ p.1 then p else (woM I J s c k, nI k)).2 = nI k) := by
  intro t
  induction t with
  | zero => exact ⟨by rw [it_0]; exact Int64.le_refl _, Or.inl rfl⟩
  | succ t ih =>
    rw [it_s]
    obtain ⟨h1, h2⟩ := ih
    split
    · refine ⟨h1, ?_⟩
      rcases h2 with h2 | ⟨k, h3, h4, h5⟩
      · exact Or.inl h2
      · exact Or.inr ⟨k, by omega, h4, h5⟩
    · rename_i hc
      have h3 : (it t ((0 : Int64), (-1 : Int32)) fun k p => if woM I J s c k ≤ p.1 then p else (woM I J s c k, nI k)).1 < woM I J s c t := by apply Classical.byContradiction; intro c; exact hc (L_le c)
      have h0 : 0 < woM I J s c t := Int64.lt_of_le_of_lt h1 h3
      refine ⟨Int64.le_of_lt h0, Or.inr ⟨t, by omega, fun h => ?_, rfl⟩⟩
      rw [woM, if_pos h] at h0
      exact absurd h0 (Int64.lt_irrefl)
/-- one that is left out -/
def bnW (K : hf_I) (J : hf_J) (s c : Nat) (F : Nat → Int32) : Int32 := (wsM (hf_w K 281 F) J s c).2
def bnS (K : hf_I) (J : hf_J) (s c : Nat) (F : Nat → Int32) : Nat → Int32 := if bnW K J s c F = -1 then F else up F (bnW K J s c F).toNatClampNeg 0
theorem bnW_k : bnW K J s c F = -1 ∨ ∃ k, k < c ∧ ¬ F k = 0 ∧ bnW K J s c F = nI k := by
  have := (@wsM_k (hf_w K 281 F) J c s c).2
  rw [kw_row] at this
  exact this
theorem ctB_up0 {k : Nat} (h : ¬ F k = 0) : ∀ n, ctB (nzB (up F k 0)) n + (if k < n then 1 else 0) = ctB (nzB F) n := by
  intro n
  induction n with
  | zero => rfl
  | succ n ih =>
    rw [ctB_s, ctB_s]
    by_cases e : n = k
    · subst e
      have e1 : nzB (up F n 0) n = false := by simp [nzB, up_s]
      have e2 : nzB F n = true := by simp [nzB, h]
      rw [if_neg (Nat.lt_irrefl _)] at ih
      rw [e1, e2, if_pos (show n < n + 1 by omega)]
      simp only [Bool.false_eq_true, if_false, if_true]
      omega
    · have e2 : (k < n + 1) = (k < n) := by apply propext; omega
      have e3 : nzB (up F k 0) n = nzB F n := by unfold nzB; rw [up_n e]
      simp only [e2, e3]
      cases nzB F n
      · simp only [Bool.false_eq_true, if_false]; exact ih
      · simp only [if_true]; omega
def MW (g : hf_G) (K : hf_I) (J : hf_J) (s c : Nat) : Prop := ∀ F : Nat → Int32, hf_rn 194 0 [some (.ref 270), some (.int (nI s)), none, none, none, none, none, none, none, none, none, none, none] [] g (hf_w K 281 F) J = some (.inl (some (.int (bnW K J s c F))), g, hf_w K 281 F, J)
theorem m_MW (h : Md g) (hc : K 270 1 = nI c) (hc2 : c ≤ 64) (hs : s < 13) : MW g K J s c := by
  intro F
  exact m_worst (I := hf_w K 281 F) h (by rw [kw_ne (by decide), hc]) hc2 hs (wtM_z hc2)
theorem m_boundL (h : Md g) (hc2 : c ≤ 64) (hw : MW g K J s c) : ∀ (d : Nat) (F : Nat → Int32) (l5 l6 : Option Value), ctB (nzB F) c ≤ d →
    hf_rn 195 81 [some (.ref 270), some (.int i), some (.int j), some (.int (nI s)), some (.int (bnW K J s c F)), l5, l6] [] g (hf_w K 281 F) J = hf_rn 195 105 [some (.ref 270), some (.int i), some (.int j), some (.int (nI s)), some (.int (-1)), l5, l6] [] g (hf_w K 281 (it d F fun _ F => bnS K J s c F)) J := by
  intro d
  induction d with
  | zero =>
    intro F l5 l6 hd
    rcases bnW_k (K := K) (J := J) (s := s) (c := c) (F := F) with h1 | ⟨k, h1, h2, h3⟩
    · rw [it_0, h1]
      simp only [s195_81, s195_83, s195_84, hf_bd_v, hf_bd_n, hf_iv_i, hf_iv_l, hf_iv_a, hf_iv_n, hf_iv_2, z_lgl, z_lgg, z_lge, z_lgle, z_lgz, Option.getD_some, Option.isSome_some, ↓reduceIte, not_true_eq_false, not_false_eq_true, Option.toList_some, Option.toList_none, List.cons_append, List.nil_append, Nat.reduceAdd, Nat.add_assoc, ku_ne, ku_same, ne_eq, Nat.reduceEqDiff, reduceCtorEq, Nat.add_eq_left, Nat.left_eq_add, Nat.reduceEqDiff, q10, q_ne, true_or, or_true]
    · have := ctB_pos (p := nzB F) (k := k) (by simp [nzB, h2]) c h1
      omega
  | succ d ih =>
    intro F l5 l6 hd
    rcases bnW_k (K := K) (J := J) (s := s) (c := c) (F := F) with h1 | ⟨k, h1, h2, h3⟩
    · have e : it (d + 1) F (fun _ F => bnS K J s c F) = F := by
        have := it_fix (s := F) (f := fun _ F => bnS K J s c F) (t := 0) (by intro k; rw [it_0, bnS, if_pos h1]) (d + 1)
        rw [Nat.zero_add, it_0] at this
        exact this
      rw [e, h1]
      simp only [s195_81, s195_83, s195_84, hf_bd_v, hf_bd_n, hf_iv_i, hf_iv_l, hf_iv_a, hf_iv_n, hf_iv_2, z_lgl, z_lgg, z_lge, z_lgle, z_lgz, Option.getD_some, Option.isSome_some, ↓reduceIte, not_true_eq_false, not_false_eq_true, Option.toList_some, Option.toList_none, List.cons_append, List.nil_append, Nat.reduceAdd, Nat.add_assoc, ku_ne, ku_same, ne_eq, Nat.reduceEqDiff, reduceCtorEq, Nat.add_eq_left, Nat.left_eq_add, Nat.reduceEqDiff, q10, q_ne, true_or, or_true]
    · have hnl := nI_m1n (show k < 1000 by omega)
      have e : bnS K J s c F = up F k 0 := by rw [bnS, if_neg (by rw [h3]; exact hnl), h3, nI_clamp (by omega)]
      have hcu := ctB_up0 h2 c
      rw [if_pos h1] at hcu
      rw [it_sh, e, h3]
      have hw1 := hw (up F k 0)
      simp only [s195_81, s195_83, s195_84, s195_87, s195_88, s195_91, s195_93, s195_94, s195_95, s195_96, s195_97, s195_100, hf_bd_v, hf_bd_n, hf_iv_i, hf_iv_l, hf_iv_a, hf_iv_n, hf_iv_2, z_lgl, z_lgg, z_lge, z_lgle, z_lgz, Option.getD_some, Option.isSome_some, ↓reduceIte, not_true_eq_false, not_false_eq_true, Option.toList_some, Option.toList_none, List.cons_append, List.nil_append, Nat.reduceAdd, Nat.add_assoc, ku_ne, ku_same, ne_eq, Nat.reduceEqDiff, reduceCtorEq, Nat.add_eq_left, Nat.left_eq_add, Nat.reduceEqDiff, q10, q_ne, true_or, or_true, md_k h, md_r16 h, md_k271 h, md_r17 h, md_k272 h, md_r18 h, md_k273 h, md_r19 h, md_k274 h, md_r20 h, md_k275 h, md_r21 h, md_k276 h, md_r22 h, md_k277 h, md_r23 h, md_k278 h, md_r24 h, md_k279 h, md_r25 h, md_k280 h, md_r26 h, md_k281 h, md_r27 h, md_k282 h, md_r28 h, md_k283 h, md_r29 h, md_k284 h, md_r30 h, md_k285 h, md_r31 h, md_k286 h, md_r33 h, md_k287 h, md_r34 h, md_k288 h, md_r35 h, md_k289 h, md_r36 h, md_k290 h, md_r37 h, md_k291 h, h.1, hnl, z_in (show k < 2147483648 by omega), z_cl (show k < 2147483648 by omega), show k < 64 by omega, decide_true, kuw, hw1]
      rw [s195_102]
      exact ih (up F k 0) l5 l6 (by omega)
def bfM (R : Nat → Int32) (s : Nat) (i : Int32) (O : Nat → Int32) (t : Nat) : Nat → Int32 := fun k => if k < t then (if R (64 * s + k) = i then 1 else 0) else O k
def bbM (F : Nat → Int32) (c : Nat) : Int64 := it c 0 fun k z => if F k = 0 then z ||| 0 else z ||| bitL k
theorem m_boundF (h : Md g) (hm : MH g I J i j true I2) (hn : slN i s) (hc : I2 270 1 = nI c) (hc2 : c ≤ 64) : hf_rn 195 0 [some (.ref 270), some (.int i), some (.int j), none, none, none, none] [] g I J = some (.inl (some (.long (bbM (it 64 (bfM (I2 275) s j (I2 281) c) fun _ F => bnS (thI I2 0) J s c F) c))), g, hf_w (thI I2 0) 281 (it 64 (bfM (I2 275) s j (I2 281) c) fun _ F => bnS (thI I2 0) J s c F), J) := by
  unfold MH at hm
  rw [bI_t] at hm
  have hs12 : s ≤ 12 := by
    rcases hn with ⟨-, h⟩ | ⟨-, h⟩ <;> omega
  have hw := m_MW (K := thI I2 0) (J := J) (s := s) h (by rw [th_f (by decide), hc]) hc2 (by omega)
  have hho : thI I2 0 275 = I2 275 := th_r (by decide)
  have hiI : thI I2 0 281 = I2 281 := th_r (by decide)
  have hc' : thI I2 0 270 1 = nI c := by rw [th_f (by decide), hc]
  have hgo : hf_rn 150 0 [some (.ref 270), some (.int 1), some (.int 1)] [] g I2 J = some (.inl (some (.int 1)), g, thI I2 0, J) := m_gs11 h
  generalize thI I2 0 = K at *
  have h1 : ∀ F : Nat → Int32, hf_w K 281 F 270 = K 270 := fun F => kw_ne (by decide)
  have h2 : ∀ F : Nat → Int32, hf_w K 281 F 275 = I2 275 := fun F => by rw [kw_ne (by decide), hho]
  -- the bits
  have loop2 : ∀ (F : Nat → Int32), hf_rn 195 105 [some (.ref 270), some (.int i), some (.int j), some (.int (nI s)), some (.int (-1)), none, none] [] g (hf_w K 281 F) J = some (.inl (some (.long (bbM F c))), g, hf_w K 281 F, J) := by
    intro F
    have loop : hf_rn 195 111 [some (.ref 270), some (.int i), some (.int j), some (.int (nI s)), some (.long 0), none, some (.int (nI 0))] [] g (hf_w K 281 F) J = some (.inl (some (.long (bbM F c))), g, hf_w K 281 F, J) := by
      refine down (n := c) (s := (0 : Int64)) (f := fun k z => if F k = 0 then z ||| 0 else z ||| bitL k) (fun t z => hf_rn 195 111 [some (.ref 270), some (.int i), some (.int j), some (.int (nI s)), some (.long z), none, some (.int (nI t))] [] g (hf_w K 281 F) J = some (.inl (some (.long (bbM F c))), g, hf_w K 281 F, J)) ?_ ?_
      · simp only [s195_111, s195_113, s195_114, s195_117, s195_120, s195_122, s195_123, s195_126, s195_128, s195_129, s195_132, s195_133, s195_135, s195_136, s195_139, s195_140, s195_141, s195_143, s195_149, s195_151, hf_bd_v, hf_bd_n, hf_iv_i, hf_iv_l, hf_iv_a, hf_iv_n, hf_iv_2, z_lgl, z_lgg, z_lge, z_lgle, z_lgz, Option.getD_some, Option.isSome_some, ↓reduceIte, not_true_eq_false, not_false_eq_true, Option.toList_some, Option.toList_none, List.cons_append, List.nil_append, Nat.reduceAdd, Nat.add_assoc, ku_ne, ku_same, ne_eq, Nat.reduceEqDiff, reduceCtorEq, Nat.add_eq_left, Nat.left_eq_add, Nat.reduceEqDiff, q10, q_ne, true_or, or_true, md_k h, md_r16 h, md_k271 h, md_r17 h, md_k272 h, md_r18 h, md_k273 h, md_r19 h, md_k274 h, md_r20 h, md_k275 h, md_r21 h, md_k276 h, md_r22 h, md_k277 h, md_r23 h, md_k278 h, md_r24 h, md_k279 h, md_r25 h, md_k280 h, md_r26 h, md_k281 h, md_r27 h, md_k282 h, md_r28 h, md_k283 h, md_r29 h, md_k284 h, md_r30 h, md_k285 h, md_r31 h, md_k286 h, md_r33 h, md_k287 h, md_r34 h, md_k288 h, md_r35 h, md_k289 h, md_r36 h, md_k290 h, md_r37 h, md_k291 h, h1, hc', z_ii (show c < 2147483648 by omega) (show c < 2147483648 by omega), Nat.le_refl]
        rfl
      · intro t z ht hx ih
        have hk1 : ¬ c ≤ t := by omega
        have hb : (1 : Int64) <<< ((nI t).toInt64 &&& 63) = bitL t := rfl
        by_cases c1 : F t = 0
        · rw [if_pos c1] at ih
          simp only [s195_111, s195_113, s195_114, s195_117, s195_120, s195_122, s195_123, s195_126, s195_128, s195_129, s195_132, s195_133, s195_135, s195_136, s195_139, s195_140, s195_141, s195_143, hf_bd_v, hf_bd_n, hf_iv_i, hf_iv_l, hf_iv_a, hf_iv_n, hf_iv_2, z_lgl, z_lgg, z_lge, z_lgle, z_lgz, Option.getD_some, Option.isSome_some, ↓reduceIte, not_true_eq_false, not_false_eq_true, Option.toList_some, Option.toList_none, List.cons_append, List.nil_append, Nat.reduceAdd, Nat.add_assoc, ku_ne, ku_same, ne_eq, Nat.reduceEqDiff, reduceCtorEq, Nat.add_eq_left, Nat.left_eq_add, Nat.reduceEqDiff, q10, q_ne, true_or, or_true, md_k h, md_r16 h, md_k271 h, md_r17 h, md_k272 h, md_r18 h, md_k273 h, md_r19 h, md_k274 h, md_r20 h, md_k275 h, md_r21 h, md_k276 h, md_r22 h, md_k277 h, md_r23 h, md_k278 h, md_r24 h, md_k279 h, md_r25 h, md_k280 h, md_r26 h, md_k281 h, md_r27 h, md_k282 h, md_r28 h, md_k283 h, md_r29 h, md_k284 h, md_r30 h, md_k285 h, md_r31 h, md_k286 h, md_r33 h, md_k287 h, md_r34 h, md_k288 h, md_r35 h, md_k289 h, md_r36 h, md_k290 h, md_r37 h, md_k291 h, h1, hc', z_ii (show c < 2147483648 by omega) (show t < 2147483648 by omega), hk1, z_in (show t < 2147483648 by omega), z_cl (show t < 2147483648 by omega), show t < 64 by omega, decide_true, kw_row, c1, z_1]
          rw [s195_146]
          exact ih
        · rw [if_neg c1] at ih
          simp only [s195_111, s195_113, s195_114, s195_117, s195_120, s195_122, s195_123, s195_126, s195_128, s195_129, s195_132, s195_133, s195_135, s195_136, s195_139, s195_140, s195_141, s195_143, hf_bd_v, hf_bd_n, hf_iv_i, hf_iv_l, hf_iv_a, hf_iv_n, hf_iv_2, z_lgl, z_lgg, z_lge, z_lgle, z_lgz, Option.getD_some, Option.isSome_some, ↓reduceIte, not_true_eq_false, not_false_eq_true, Option.toList_some, Option.toList_none, List.cons_append, List.nil_append, Nat.reduceAdd, Nat.add_assoc, ku_ne, ku_same, ne_eq, Nat.reduceEqDiff, reduceCtorEq, Nat.add_eq_left, Nat.left_eq_add, Nat.reduceEqDiff, q10, q_ne, true_or, or_true, md_k h, md_r16 h, md_k271 h, md_r17 h, md_k272 h, md_r18 h, md_k273 h, md_r19 h, md_k274 h, md_r20 h, md_k275 h, md_r21 h, md_k276 h, md_r22 h, md_k277 h, md_r23 h, md_k278 h, md_r24 h, md_k279 h, md_r25 h, md_k280 h, md_r26 h, md_k281 h, md_r27 h, md_k282 h, md_r28 h, md_k283 h, md_r29 h, md_k284 h, md_r30 h, md_k285 h, md_r31 h, md_k286 h, md_r33 h, md_k287 h, md_r34 h, md_k288 h, md_r35 h, md_k289 h, md_r36 h, md_k290 h, md_r37 h, md_k291 h, h1, hc', z_ii (show c < 2147483648 by omega) (show t < 2147483648 by omega), hk1, z_in (show t < 2147483648 by omega), z_cl (show t < 2147483648 by omega), show t < 64 by omega, decide_true, kw_row, c1, hb, z_1]
          rw [s195_146]
          exact ih
    simp only [s195_105, s195_106, s195_108, s195_109, hf_bd_v, hf_bd_n, hf_iv_i, hf_iv_l, hf_iv_a, hf_iv_n, hf_iv_2, z_lgl, z_lgg, z_lge, z_lgle, z_lgz, Option.getD_some, Option.isSome_some, ↓reduceIte, not_true_eq_false, not_false_eq_true, Option.toList_some, Option.toList_none, List.cons_append, List.nil_append, Nat.reduceAdd, Nat.add_assoc, ku_ne, ku_same, ne_eq, Nat.reduceEqDiff, reduceCtorEq, Nat.add_eq_left, Nat.left_eq_add, Nat.reduceEqDiff, q10, q_ne, true_or, or_true]
    exact loop
  have loop1 : hf_rn 195 31 [some (.ref 270), some (.int i), some (.int j), some (.int (nI s)), some (.int (nI 0)), none, none] [] g (hf_w K 281 (bfM (I2 275) s j (I2 281) 0)) J = some (.inl (some (.long (bbM (it 64 (bfM (I2 275) s j (I2 281) c) fun _ F => bnS K J s c F) c))), g, hf_w K 281 (it 64 (bfM (I2 275) s j (I2 281) c) fun _ F => bnS K J s c F), J) := by
    refine down (n := c) (s := ()) (f := fun _ _ => ()) (fun t _ => hf_rn 195 31 [some (.ref 270), some (.int i), some (.int j), some (.int (nI s)), some (.int (nI t)), none, none] [] g (hf_w K 281 (bfM (I2 275) s j (I2 281) t)) J = some (.inl (some (.long (bbM (it 64 (bfM (I2 275) s j (I2 281) c) fun _ F => bnS K J s c F) c))), g, hf_w K 281 (it 64 (bfM (I2 275) s j (I2 281) c) fun _ F => bnS K J s c F), J)) ?_ ?_
    · have hw1 := hw (bfM (I2 275) s j (I2 281) c)
      have hl := m_boundL (i := i) (j := j) h hc2 hw 64 (bfM (I2 275) s j (I2 281) c) none none (Nat.le_trans (ctB_le c) hc2)
      rw [loop2] at hl
      simp only [s195_31, s195_33, s195_34, s195_37, s195_40, s195_41, s195_44, s195_46, s195_47, s195_50, s195_52, s195_53, s195_54, s195_56, s195_57, s195_58, s195_59, s195_62, s195_63, s195_66, s195_67, s195_68, s195_74, s195_75, s195_76, s195_79, hf_bd_v, hf_bd_n, hf_iv_i, hf_iv_l, hf_iv_a, hf_iv_n, hf_iv_2, z_lgl, z_lgg, z_lge, z_lgle, z_lgz, Option.getD_some, Option.isSome_some, ↓reduceIte, not_true_eq_false, not_false_eq_true, Option.toList_some, Option.toList_none, List.cons_append, List.nil_append, Nat.reduceAdd, Nat.add_assoc, ku_ne, ku_same, ne_eq, Nat.reduceEqDiff, reduceCtorEq, Nat.add_eq_left, Nat.left_eq_add, Nat.reduceEqDiff, q10, q_ne, true_or, or_true, md_k h, md_r16 h, md_k271 h, md_r17 h, md_k272 h, md_r18 h, md_k273 h, md_r19 h, md_k274 h, md_r20 h, md_k275 h, md_r21 h, md_k276 h, md_r22 h, md_k277 h, md_r23 h, md_k278 h, md_r24 h, md_k279 h, md_r25 h, md_k280 h, md_r26 h, md_k281 h, md_r27 h, md_k282 h, md_r28 h, md_k283 h, md_r29 h, md_k284 h, md_r30 h, md_k285 h, md_r31 h, md_k286 h, md_r33 h, md_k287 h, md_r34 h, md_k288 h, md_r35 h, md_k289 h, md_r36 h, md_k290 h, md_r37 h, md_k291 h, h.1, h1, hc', z_ii (show c < 2147483648 by omega) (show c < 2147483648 by omega), Nat.le_refl, hw1]
      exact hl
    · intro t _ ht _ ih
      have hk1 : ¬ c ≤ t := by omega
      have h8 : 64 * s + t < 832 := by omega
      have e : ∀ v, v = (if I2 275 (64 * s + t) = j then (1 : Int32) else 0) → up (bfM (I2 275) s j (I2 281) t) t v = bfM (I2 275) s j (I2 281) (t + 1) := by
        intro v hv
        funext y
        unfold up bfM
        by_cases h1 : y = t
        · subst h1; rw [if_pos rfl, if_pos (by omega), hv]
        · simp only [h1, if_false, show (y < t + 1) = (y < t) from by apply propext; omega]
      by_cases c1 : I2 275 (64 * s + t) = j
      · simp only [s195_31, s195_33, s195_34, s195_37, s195_40, s195_41, s195_44, s195_46, s195_47, s195_50, s195_52, s195_53, s195_54, s195_56, s195_57, s195_58, s195_59, s195_62, s195_63, s195_66, s195_67, s195_68, hf_bd_v, hf_bd_n, hf_iv_i, hf_iv_l, hf_iv_a, hf_iv_n, hf_iv_2, z_lgl, z_lgg, z_lge, z_lgle, z_lgz, Option.getD_some, Option.isSome_some, ↓reduceIte, not_true_eq_false, not_false_eq_true, Option.toList_some, Option.toList_none, List.cons_append, List.nil_append, Nat.reduceAdd, Nat.add_assoc, ku_ne, ku_same, ne_eq, Nat.reduceEqDiff, reduceCtorEq, Nat.add_eq_left, Nat.left_eq_add, Nat.reduceEqDiff, q10, q_ne, true_or, or_true, md_k h, md_r16 h, md_k271 h, md_r17 h, md_k272 h, md_r18 h, md_k273 h, md_r19 h, md_k274 h, md_r20 h, md_k275 h, md_r21 h, md_k276 h, md_r22 h, md_k277 h, md_r23 h, md_k278 h, md_r24 h, md_k279 h, md_r25 h, md_k280 h, md_r26 h, md_k281 h, md_r27 h, md_k282 h, md_r28 h, md_k283 h, md_r29 h, md_k284 h, md_r30 h, md_k285 h, md_r31 h, md_k286 h, md_r33 h, md_k287 h, md_r34 h, md_k288 h, md_r35 h, md_k289 h, md_r36 h, md_k290 h, md_r37 h, md_k291 h, h1, h2, hc', z_ii (show c < 2147483648 by omega) (show t < 2147483648 by omega), hk1, ix64, z_in (show 64 * s + t < 2147483648 by omega), z_cl (show 64 * s + t < 2147483648 by omega), h8, z_in (show t < 2147483648 by omega), z_cl (show t < 2147483648 by omega), show t < 64 by omega, decide_true, c1, kuw, z_1]
        rw [s195_71, e 1 (by rw [if_pos c1])]
        exact ih
      · simp only [s195_31, s195_33, s195_34, s195_37, s195_40, s195_41, s195_44, s195_46, s195_47, s195_50, s195_52, s195_53, s195_54, s195_56, s195_57, s195_58, s195_59, s195_62, s195_63, s195_66, s195_67, s195_68, hf_bd_v, hf_bd_n, hf_iv_i, hf_iv_l, hf_iv_a, hf_iv_n, hf_iv_2, z_lgl, z_lgg, z_lge, z_lgle, z_lgz, Option.getD_some, Option.isSome_some, ↓reduceIte, not_true_eq_false, not_false_eq_true, Option.toList_some, Option.toList_none, List.cons_append, List.nil_append, Nat.reduceAdd, Nat.add_assoc, ku_ne, ku_same, ne_eq, Nat.reduceEqDiff, reduceCtorEq, Nat.add_eq_left, Nat.left_eq_add, Nat.reduceEqDiff, q10, q_ne, true_or, or_true, md_k h, md_r16 h, md_k271 h, md_r17 h, md_k272 h, md_r18 h, md_k273 h, md_r19 h, md_k274 h, md_r20 h, md_k275 h, md_r21 h, md_k276 h, md_r22 h, md_k277 h, md_r23 h, md_k278 h, md_r24 h, md_k279 h, md_r25 h, md_k280 h, md_r26 h, md_k281 h, md_r27 h, md_k282 h, md_r28 h, md_k283 h, md_r29 h, md_k284 h, md_r30 h, md_k285 h, md_r31 h, md_k286 h, md_r33 h, md_k287 h, md_r34 h, md_k288 h, md_r35 h, md_k289 h, md_r36 h, md_k290 h, md_r37 h, md_k291 h, h1, h2, hc', z_ii (show c < 2147483648 by omega) (show t < 2147483648 by omega), hk1, ix64, z_in (show 64 * s + t < 2147483648 by omega), z_cl (show 64 * s + t < 2147483648 by omega), h8, z_in (show t < 2147483648 by omega), z_cl (show t < 2147483648 by omega), show t < 64 by omega, decide_true, c1, kuw, z_1]
        rw [s195_71, e 0 (by rw [if_neg c1])]
        exact ih
  have e0 : hf_w K 281 (bfM (I2 275) s j (I2 281) 0) = K := kw_id (by funext y; rw [bfM, if_neg (by omega), hiI])
  rw [e0] at loop1
  rcases hn with ⟨rfl, rfl⟩ | ⟨rfl, h12⟩
  · simp only [s195_0, s195_1, s195_2, s195_3, s195_4, s195_7, s195_8, s195_11, s195_14, s195_15, s195_16, s195_17, s195_18, s195_21, s195_23, s195_26, s195_27, s195_28, s195_29, hf_bd_v, hf_bd_n, hf_iv_i, hf_iv_l, hf_iv_a, hf_iv_n, hf_iv_2, z_lgl, z_lgg, z_lge, z_lgle, z_lgz, Option.getD_some, Option.isSome_some, ↓reduceIte, not_true_eq_false, not_false_eq_true, Option.toList_some, Option.toList_none, List.cons_append, List.nil_append, Nat.reduceAdd, Nat.add_assoc, ku_ne, ku_same, ne_eq, Nat.reduceEqDiff, reduceCtorEq, Nat.add_eq_left, Nat.left_eq_add, Nat.reduceEqDiff, q10, q_ne, true_or, or_true, h.1, hm, hgo]
    exact loop1
  · have hnl := nI_m1n (show s < 1000 by omega)
    simp only [s195_0, s195_1, s195_2, s195_3, s195_4, s195_7, s195_8, s195_11, s195_14, s195_15, s195_16, s195_17, s195_18, s195_21, s195_23, s195_26, s195_27, s195_28, s195_29, hf_bd_v, hf_bd_n, hf_iv_i, hf_iv_l, hf_iv_a, hf_iv_n, hf_iv_2, z_lgl, z_lgg, z_lge, z_lgle, z_lgz, Option.getD_some, Option.isSome_some, ↓reduceIte, not_true_eq_false, not_false_eq_true, Option.toList_some, Option.toList_none, List.cons_append, List.nil_append, Nat.reduceAdd, Nat.add_assoc, ku_ne, ku_same, ne_eq, Nat.reduceEqDiff, reduceCtorEq, Nat.add_eq_left, Nat.left_eq_add, Nat.reduceEqDiff, q10, q_ne, true_or, or_true, h.1, hm, hgo, hnl]
    exact loop1
theorem m_boundX (h : Md g) (hm : MH g I J i j false I2) : hf_rn 195 0 [some (.ref 270), some (.int i), some (.int j), none, none, none, none] [] g I J = some (.inl (some (.long 0)), g, thI I2 1, J) := by
  unfold MH at hm
  rw [bI_f] at hm
  simp only [s195_0, s195_1, s195_2, s195_3, s195_4, s195_7, s195_8, s195_11, s195_14, s195_15, s195_16, s195_17, s195_18, s195_21, s195_23, s195_26, s195_27, s195_28, s195_29, hf_bd_v, hf_bd_n, hf_iv_i, hf_iv_l, hf_iv_a, hf_iv_n, hf_iv_2, z_lgl, z_lgg, z_lge, z_lgle, z_lgz, Option.getD_some, Option.isSome_some, ↓reduceIte, not_true_eq_false, not_false_eq_true, Option.toList_some, Option.toList_none, List.cons_append, List.nil_append, Nat.reduceAdd, Nat.add_assoc, ku_ne, ku_same, ne_eq, Nat.reduceEqDiff, reduceCtorEq, Nat.add_eq_left, Nat.left_eq_add, Nat.reduceEqDiff, q10, q_ne, true_or, or_true, h.1, hm, m_gs01 h]
end
