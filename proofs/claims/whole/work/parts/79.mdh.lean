/-! THE MODEL: what is told of a halo in any heap with the same grains; the sky looked at -/
def ctB (p : Nat → Bool) (n : Nat) : Nat := it n 0 fun k s => if p k = true then s + 1 else s
theorem ctB_s {p : Nat → Bool} {n : Nat} : ctB p (n + 1) = if p n = true then ctB p n + 1 else ctB p n := rfl
theorem ctB_le {p : Nat → Bool} : ∀ n, ctB p n ≤ n := by
  intro n
  induction n with
  | zero => exact Nat.le_refl _
  | succ n ih => rw [ctB_s]; split <;> omega
theorem ctB_pos {p : Nat → Bool} {k : Nat} (hp : p k = true) : ∀ n, k < n → 0 < ctB p n := by
  intro n
  induction n with
  | zero => intro h; omega
  | succ n ih =>
    intro h
    rw [ctB_s]
    by_cases e : k = n
    · subst e; rw [if_pos hp]; omega
    · have := ih (by omega)
      split <;> omega
section
variable {g : hf_G} {I I2 : hf_I} {J : hf_J} {a b c k l m n s p q cl P : Nat} {u v w : Int64} {i j x y : Int32} {S B F H : Nat → Int32} {cn : Nat → Nat} {Q : Q4} {K : hf_I} {W : V5}
theorem tsM_n : ∀ n, (tsM I J s q y i n).2 = nI (ctB (fun k => decide (I 275 (64 * s + k) = i)) n) := by
  intro n
  induction n with
  | zero => rfl
  | succ n ih =>
    rw [tsM, it_s, ← tsM, ctB_s]
    by_cases c1 : I 275 (64 * s + n) = i
    · rw [if_pos c1, if_pos (decide_eq_true c1), ← z_1, ← ih]
    · rw [if_neg c1, if_neg (by simp [c1]), ih]
theorem lwM_k : ∀ t, t ≤ c → ((it t (-1 : Int32) fun t f => if I 275 (64 * s + (c - 1 - t)) = i then nI (c - 1 - t) else f) = -1 ∧ ∀ m, c - t ≤ m → m < c → I 275 (64 * s + m) ≠ i) ∨ ∃ q, c - t ≤ q ∧ q < c ∧ (it t (-1 : Int32) fun t f => if I 275 (64 * s + (c - 1 - t)) = i then nI (c - 1 - t) else f) = nI q ∧ I 275 (64 * s + q) = i ∧ ∀ m, c - t ≤ m → m < q → I 275 (64 * s + m) ≠ i := by
  intro t
  induction t with
  | zero => intro _; exact Or.inl ⟨rfl, fun m h1 h2 => by omega⟩
  | succ t ih =>
    intro ht
    rw [it_s]
    by_cases c1 : I 275 (64 * s + (c - 1 - t)) = i
    · rw [if_pos c1]
      exact Or.inr ⟨c - 1 - t, by omega, by omega, rfl, c1, fun m h1 h2 => by omega⟩
    · rw [if_neg c1]
      rcases ih (by omega) with ⟨h1, h2⟩ | ⟨q, h1, h2, h3, h4, h5⟩
      · refine Or.inl ⟨h1, fun m m1 m2 => ?_⟩
        by_cases e : m = c - 1 - t
        · subst e; exact c1
        · exact h2 m (by omega) m2
      · refine Or.inr ⟨q, by omega, h2, h3, h4, fun m m1 m2 => ?_⟩
        by_cases e : m = c - 1 - t
        · subst e; exact c1
        · exact h5 m (by omega) m2
theorem lwM_some (hm : m < c) (hi : I 275 (64 * s + m) = i) : ∃ q, q < c ∧ lwM I s i c = nI q ∧ I 275 (64 * s + q) = i ∧ ∀ m, m < q → I 275 (64 * s + m) ≠ i := by
  rcases @lwM_k I c s i c (Nat.le_refl _) with ⟨h1, h2⟩ | ⟨q, h1, h2, h3, h4, h5⟩
  · exact absurd hi (h2 m (by omega) hm)
  · exact ⟨q, h2, h3, h4, fun m hm => h5 m (by omega) hm⟩
/-- what is told of a halo -/
def tdM (I : hf_I) (J : hf_J) (c p k : Nat) (y : Int32) : Int64 := teM I p (lwM I p (nI k) c).toNatClampNeg y (tsM I J p (lwM I p (nI k) c).toNatClampNeg y (nI k) c)
theorem tdM_fr (h1 : I2 271 = I 271) (h2 : I2 272 = I 272) (h3 : I2 275 = I 275) : tdM I2 J c p k y = tdM I J c p k y := by
  unfold tdM teM tsM tvM waX waY lwM
  rw [h1, h2, h3]
theorem m_toldH (h : Md g) (hc : I 270 1 = nI c) (hc2 : c ≤ 64) (hs : p < 13) (hm : ∃ m, m < c ∧ I 275 (64 * p + m) = nI k) : hf_rn 191 0 [some (.ref 270), some (.int (nI p)), some (.int (nI k)), some (.int y), none, none, none, none, none, none, none, none] [] g I J = some (.inl (some (.long (tdM I J c p k y))), g, I, J) := by
  obtain ⟨m, m1, m2⟩ := hm
  obtain ⟨q, q1, q2, q3, q4⟩ := lwM_some (I := I) m1 m2
  have e : (lwM I p (nI k) c).toNatClampNeg = q := by rw [q2, nI_clamp (by omega)]
  unfold tdM
  rw [e]
  refine m_told h hc hc2 hs q2 (by omega) ?_
  rw [tsM_n]
  have h1 := @ctB_le (fun k_1 => decide (I 275 (64 * p + k_1) = nI k)) c
  have h2 := ctB_pos (p := fun k_1 => decide (I 275 (64 * p + k_1) = nI k)) (k := m) (decide_eq_true m2) c m1
  rw [nI_ll (by omega), show (0 : Int64) = lZ 0 from rfl, lZ_eq ⟨by omega, by omega⟩ ⟨by omega, by omega⟩]
  omega
/-- each halo has grains -/
def Mdh (I : hf_I) (c P : Nat) (cn : Nat → Nat) : Prop := ∀ e k, e < P → k < cn e → ∃ m, m < c ∧ I 275 (64 * e + m) = nI k
def lk1 (K : hf_I) (T : Nat → Nat → Int32 → Int64) (p : Nat) (q : Nat × V5) (t : Nat) : Nat × V5 := it t q fun k q => lkS K T p k q
def lk2 (K : hf_I) (T : Nat → Nat → Int32 → Int64) (cn : Nat → Nat) : Nat → Nat × V5 → Nat × V5
  | 0, q => q
  | m + 1, q => lk2 K T cn m (lk1 K T m q (cn m))
theorem lkS_le {T : Nat → Nat → Int32 → Int64} {q : Nat × V5} : (lkS K T p k q).1 ≤ q.1 + 1 := by
  unfold lkS
  dsimp only
  split
  · exact Nat.le_refl _
  · exact Nat.le_succ _
theorem lk1_le {T : Nat → Nat → Int32 → Int64} {q : Nat × V5} : ∀ t, (lk1 K T p q t).1 ≤ q.1 + t := by
  intro t
  induction t with
  | zero => exact Nat.le_refl _
  | succ t ih =>
    rw [lk1, it_s, ← lk1]
    have := @lkS_le t p K T (lk1 K T p q t)
    omega
/-- the codes of those seen are codes -/
def dcV (V : Nat → Int32) (n : Nat) : Prop := ∀ k, k < n → ∃ a b, a < 12 ∧ b < 64 ∧ V k = nI (100 * a + b)
theorem lkS_dc {T : Nat → Nat → Int32 → Int64} {q : Nat × V5} (hp : p < 12) (hk : k < 64) (h : dcV q.2.1 q.1) : dcV (lkS K T p k q).2.1 (lkS K T p k q).1 := by
  unfold lkS
  dsimp only
  split
  · intro z hz
    dsimp only at hz ⊢
    by_cases e : z = q.1
    · subst e; rw [up_s]; exact ⟨p, k, hp, hk, rfl⟩
    · rw [up_n e]; exact h z (by omega)
  · exact h
theorem lk1_dc {T : Nat → Nat → Int32 → Int64} {q : Nat × V5} (hp : p < 12) (h : dcV q.2.1 q.1) : ∀ t, t ≤ 64 → dcV (lk1 K T p q t).2.1 (lk1 K T p q t).1 := by
  intro t
  induction t with
  | zero => intro _; exact h
  | succ t ih =>
    intro ht
    rw [lk1, it_s, ← lk1]
    exact lkS_dc hp (by omega) (ih (by omega))
theorem lk2_dc {T : Nat → Nat → Int32 → Int64} (hcn : ∀ e, e < P → cn e ≤ 64) (hP : P ≤ 12) : ∀ m (q : Nat × V5), m ≤ P → dcV q.2.1 q.1 → dcV (lk2 K T cn m q).2.1 (lk2 K T cn m q).1 := by
  intro m
  induction m with
  | zero => intro q _ h; exact h
  | succ m ih =>
    intro q hm h
    exact ih _ (by omega) (lk1_dc (by omega) h _ (hcn m (by omega)))
theorem lk2_le {T : Nat → Nat → Int32 → Int64} (hcn : ∀ e, e < P → cn e ≤ 64) : ∀ m (q : Nat × V5), m ≤ P → (lk2 K T cn m q).1 ≤ q.1 + 64 * m := by
  intro m
  induction m with
  | zero => intro q _; exact Nat.le_refl _
  | succ m ih =>
    intro q hm
    have h1 := ih (lk1 K T m q (cn m)) (by omega)
    have h2 := @lk1_le m K T q (cn m)
    have h3 := hcn m (by omega)
    rw [lk2]
    omega
theorem m_looks1 (h : Md g) (hM : Mdp K c P cn) (hH : Mdh K c P cn) (hd : ¬ K 270 12 = 0) {R : Option hf_R}
    (hR : ∀ l2 l3, hf_rn 218 51 [some (.ref 270), some (.int (-1)), l2, l3] [] g (lQ K (lk2 K (tdM K J c) cn P (0, W)).1 (lk2 K (tdM K J c) cn P (0, W)).2) J = R) :
    hf_rn 218 10 [some (.ref 270), none, none, none] [] g (lQ K 0 W) J = R := by
  obtain ⟨hc, hc2, hP1, hP2, hM5, hM6⟩ := id hM
  have lt0 : ∀ a : Int, -100 ≤ a → a ≤ 100 → (iZ a < 0) = (a < 0) := fun a x1 x2 => by rw [show (0 : Int32) = iZ 0 from rfl, iZ_lt (iRs (by omega) (by omega)) (iRs (by omega) (by omega))]
  have hha : ∀ n W, lQ K n W 276 = K 276 := fun n W => lQ_n (by decide) (by decide)
  have h15 : ∀ n W, lQ K n W 270 15 = K 270 15 := fun n W => lQ_0 (by decide)
  have inner : ∀ (m : Nat) (q : Nat × V5), m < P → q.1 + 64 * (m + 1) ≤ 768 → (∀ l2 l3, hf_rn 218 17 [some (.ref 270), some (.int (iZ ((m : Int) - 1))), l2, l3] [] g (lQ K (lk1 K (tdM K J c) m q (cn m)).1 (lk1 K (tdM K J c) m q (cn m)).2) J = R) →
      ∀ l3, hf_rn 218 23 [some (.ref 270), some (.int (nI m)), some (.int (nI 0)), l3] [] g (lQ K q.1 q.2) J = R := by
    intro m q hm hq hR
    obtain ⟨h64, hhm⟩ := hM5 m hm
    refine down (n := cn m) (s := q) (f := fun k q => lkS K (tdM K J c) m k q) (fun t q => ∀ l3, hf_rn 218 23 [some (.ref 270), some (.int (nI m)), some (.int (nI t)), l3] [] g (lQ K q.1 q.2) J = R) ?_ ?_
    · intro l3
      simp only [s218_23, s218_24, s218_25, s218_28, s218_29, s218_30, s218_33, s218_34, s218_35, s218_36, s218_39, s218_42, s218_45, hf_bd_v, hf_bd_n, hf_iv_i, hf_iv_l, hf_iv_a, hf_iv_n, hf_iv_2, z_lgl, z_lgg, z_lge, z_lgle, z_lgz, Option.getD_some, Option.isSome_some, ↓reduceIte, not_true_eq_false, not_false_eq_true, Option.toList_some, Option.toList_none, List.cons_append, List.nil_append, Nat.reduceAdd, Nat.add_assoc, ku_ne, ku_same, ne_eq, Nat.reduceEqDiff, reduceCtorEq, Nat.add_eq_left, Nat.left_eq_add, Nat.reduceEqDiff, q10, q_ne, true_or, or_true, md_k h, md_r16 h, md_k271 h, md_r17 h, md_k272 h, md_r18 h, md_k273 h, md_r19 h, md_k274 h, md_r20 h, md_k275 h, md_r21 h, md_k276 h, md_r22 h, md_k277 h, md_r23 h, md_k278 h, md_r24 h, md_k279 h, md_r25 h, md_k280 h, md_r26 h, md_k281 h, md_r27 h, md_k282 h, md_r28 h, md_k283 h, md_r29 h, md_k284 h, md_r30 h, md_k285 h, md_r31 h, md_k286 h, md_r33 h, md_k287 h, md_r34 h, md_k288 h, md_r35 h, md_k289 h, md_r36 h, md_k290 h, md_r37 h, md_k291 h, hha, hhm, z_in (show m < 2147483648 by omega), z_cl (show m < 2147483648 by omega), show m < 13 by omega, decide_true, z_ii (show cn m < 2147483648 by omega) (show cn m < 2147483648 by omega), Nat.le_refl]
      rw [s218_48, show nI m + -1 = iZ ((m : Int) - 1) from by rw [nI_iZ, iZ_d]]
      exact hR _ _
    · intro t y ht hx ih l3
      have hk1 : ¬ cn m ≤ t := by omega
      have hy : y.1 ≤ q.1 + t := by rw [hx]; exact lk1_le t
      have hlk := m_looksAt (K := K) (n := y.1) (W := y.2) (T := tdM K J c) h (show m < 12 by omega) (show t < 64 by omega) (by omega) hd (fun z n W _ => by
        have e1 : lQ K n W 270 1 = nI c := by rw [lQ_0 (by decide), hc]
        have := m_toldH (I := lQ K n W) (J := J) (p := m) (k := t) (y := z) h e1 hc2 (by omega) (by rw [lQ_n (by decide) (by decide)]; exact hH m t hm ht)
        rw [tdM_fr (lQ_n (by decide) (by decide)) (lQ_n (by decide) (by decide)) (lQ_n (by decide) (by decide))] at this
        exact this)
      simp only [s218_23, s218_24, s218_25, s218_28, s218_29, s218_30, s218_33, s218_34, s218_35, s218_36, s218_39, hf_bd_v, hf_bd_n, hf_iv_i, hf_iv_l, hf_iv_a, hf_iv_n, hf_iv_2, z_lgl, z_lgg, z_lge, z_lgle, z_lgz, Option.getD_some, Option.isSome_some, ↓reduceIte, not_true_eq_false, not_false_eq_true, Option.toList_some, Option.toList_none, List.cons_append, List.nil_append, Nat.reduceAdd, Nat.add_assoc, ku_ne, ku_same, ne_eq, Nat.reduceEqDiff, reduceCtorEq, Nat.add_eq_left, Nat.left_eq_add, Nat.reduceEqDiff, q10, q_ne, true_or, or_true, md_k h, md_r16 h, md_k271 h, md_r17 h, md_k272 h, md_r18 h, md_k273 h, md_r19 h, md_k274 h, md_r20 h, md_k275 h, md_r21 h, md_k276 h, md_r22 h, md_k277 h, md_r23 h, md_k278 h, md_r24 h, md_k279 h, md_r25 h, md_k280 h, md_r26 h, md_k281 h, md_r27 h, md_k282 h, md_r28 h, md_k283 h, md_r29 h, md_k284 h, md_r30 h, md_k285 h, md_r31 h, md_k286 h, md_r33 h, md_k287 h, md_r34 h, md_k288 h, md_r35 h, md_k289 h, md_r36 h, md_k290 h, md_r37 h, md_k291 h, h.1, hha, hhm, z_in (show m < 2147483648 by omega), z_cl (show m < 2147483648 by omega), show m < 13 by omega, decide_true, z_ii (show cn m < 2147483648 by omega) (show t < 2147483648 by omega), hk1, z_1, hlk]
      rw [s218_42]
      exact ih _
  have outer : ∀ (m : Nat) (q : Nat × V5) l2 l3, m ≤ P → q.1 + 64 * m ≤ 768 → (∀ l2 l3, hf_rn 218 51 [some (.ref 270), some (.int (-1)), l2, l3] [] g (lQ K (lk2 K (tdM K J c) cn m q).1 (lk2 K (tdM K J c) cn m q).2) J = R) → hf_rn 218 17 [some (.ref 270), some (.int (iZ ((m : Int) - 1))), l2, l3] [] g (lQ K q.1 q.2) J = R := by
    intro m
    induction m with
    | zero =>
      intro q l2 l3 _ _ hR
      have e : (((0 : Nat) : Int) - 1 < 0) := by omega
      simp only [s218_17, s218_18, s218_21, s218_22, hf_bd_v, hf_bd_n, hf_iv_i, hf_iv_l, hf_iv_a, hf_iv_n, hf_iv_2, z_lgl, z_lgg, z_lge, z_lgle, z_lgz, Option.getD_some, Option.isSome_some, ↓reduceIte, not_true_eq_false, not_false_eq_true, Option.toList_some, Option.toList_none, List.cons_append, List.nil_append, Nat.reduceAdd, Nat.add_assoc, ku_ne, ku_same, ne_eq, Nat.reduceEqDiff, reduceCtorEq, Nat.add_eq_left, Nat.left_eq_add, Nat.reduceEqDiff, q10, q_ne, true_or, or_true, lt0 (((0 : Nat) : Int) - 1) (by omega) (by omega), e]
      exact hR l2 l3
    | succ m ih =>
      intro q l2 l3 hm hq hR
      have e : ¬ (((m + 1 : Nat) : Int) - 1 < 0) := by omega
      have e2 : iZ (((m + 1 : Nat) : Int) - 1) = nI m := by rw [nI_iZ]; congr 1; omega
      simp only [s218_17, s218_18, s218_21, s218_22, hf_bd_v, hf_bd_n, hf_iv_i, hf_iv_l, hf_iv_a, hf_iv_n, hf_iv_2, z_lgl, z_lgg, z_lge, z_lgle, z_lgz, Option.getD_some, Option.isSome_some, ↓reduceIte, not_true_eq_false, not_false_eq_true, Option.toList_some, Option.toList_none, List.cons_append, List.nil_append, Nat.reduceAdd, Nat.add_assoc, ku_ne, ku_same, ne_eq, Nat.reduceEqDiff, reduceCtorEq, Nat.add_eq_left, Nat.left_eq_add, Nat.reduceEqDiff, q10, q_ne, true_or, or_true, lt0 (((m + 1 : Nat) : Int) - 1) (by omega) (by omega), e]
      rw [e2]
      refine inner m q (by omega) (by omega) (fun l2 l3 => ih _ l2 l3 (by omega) ?_ hR) l3
      have h1 := @lk1_le m K (tdM K J c) q (cn m)
      have h2 := (hM5 m (by omega)).1
      omega
  have key := outer P (0, W) none none (Nat.le_refl _) (by dsimp only; omega) hR
  simp only [s218_10, s218_11, s218_14, s218_15, s218_16, hf_bd_v, hf_bd_n, hf_iv_i, hf_iv_l, hf_iv_a, hf_iv_n, hf_iv_2, z_lgl, z_lgg, z_lge, z_lgle, z_lgz, Option.getD_some, Option.isSome_some, ↓reduceIte, not_true_eq_false, not_false_eq_true, Option.toList_some, Option.toList_none, List.cons_append, List.nil_append, Nat.reduceAdd, Nat.add_assoc, ku_ne, ku_same, ne_eq, Nat.reduceEqDiff, reduceCtorEq, Nat.add_eq_left, Nat.left_eq_add, Nat.reduceEqDiff, q10, q_ne, true_or, or_true, md_k h, md_r16 h, md_k271 h, md_r17 h, md_k272 h, md_r18 h, md_k273 h, md_r19 h, md_k274 h, md_r20 h, md_k275 h, md_r21 h, md_k276 h, md_r22 h, md_k277 h, md_r23 h, md_k278 h, md_r24 h, md_k279 h, md_r25 h, md_k280 h, md_r26 h, md_k281 h, md_r27 h, md_k282 h, md_r28 h, md_k283 h, md_r29 h, md_k284 h, md_r30 h, md_k285 h, md_r31 h, md_k286 h, md_r33 h, md_k287 h, md_r34 h, md_k288 h, md_r35 h, md_k289 h, md_r36 h, md_k290 h, md_r37 h, md_k291 h, h15, hP1, nI_m1]
  exact key
end
