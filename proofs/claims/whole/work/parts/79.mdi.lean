/-! SPECTRA: what they are, and that there is one way only -/
/-- one comes ahead of another: brighter, or as bright and earlier -/
abbrev bef (t : Nat → Int) (m k : Nat) : Prop := t k < t m ∨ (t m = t k ∧ m < k)
def isSp (n : Nat) (t : Nat → Int) (nr : Nat → Nat → Bool) (H : Nat → Bool) : Prop := ∀ k, k < n → (H k = true ↔ ∀ m, m < n → bef t m k → H m = true → nr k m = false)
theorem ctB_lt {p q : Nat → Bool} {m : Nat} (h : ∀ x, p x = true → q x = true) (h1 : p m = false) (h2 : q m = true) : ∀ N, ctB p N + (if m < N then 1 else 0) ≤ ctB q N := by
  intro N
  induction N with
  | zero => exact Nat.le_refl _
  | succ N ih =>
    rw [ctB_s, ctB_s]
    by_cases e : N = m
    · subst e
      rw [if_neg (by rw [h1]; decide), if_pos h2, if_pos (Nat.lt_succ_self _)]
      rw [if_neg (Nat.lt_irrefl _)] at ih
      omega
    · have e2 : (m < N + 1) = (m < N) := by apply propext; omega
      simp only [e2]
      cases hp : p N
      · simp only [Bool.false_eq_true, if_false]
        have : ctB q N ≤ if q N = true then ctB q N + 1 else ctB q N := by split <;> omega
        omega
      · rw [h N hp]
        simp only [if_true]
        omega
theorem isSp_one {n : Nat} {t : Nat → Int} {nr : Nat → Nat → Bool} {H H2 : Nat → Bool} (h : isSp n t nr H) (h2 : isSp n t nr H2) : ∀ k, k < n → H k = H2 k := by
  have key : ∀ d k, k < n → ctB (fun m => decide (bef t m k)) n < d → H k = H2 k := by
    intro d
    induction d with
    | zero => intro k _ hd; omega
    | succ d ih =>
      intro k hk hd
      have e : ∀ m, m < n → bef t m k → H m = H2 m := by
        intro m hm hb
        refine ih m hm ?_
        have hsub := ctB_lt (p := fun x => decide (bef t x m)) (q := fun x => decide (bef t x k)) (m := m) (fun x hx => by
          simp only [decide_eq_true_eq] at hx ⊢
          omega) (decide_eq_false (by omega)) (decide_eq_true hb)
        have := hsub n
        rw [if_pos hm] at this
        omega
      have a1 := h k hk
      have a2 := h2 k hk
      have a3 : (∀ m, m < n → bef t m k → H m = true → nr k m = false) ↔ (∀ m, m < n → bef t m k → H2 m = true → nr k m = false) := by
        constructor
        · intro q m hm hb hx
          exact q m hm hb (by rw [e m hm hb]; exact hx)
        · intro q m hm hb hx
          exact q m hm hb (by rw [← e m hm hb]; exact hx)
      have a4 := a1.trans (a3.trans a2.symm)
      cases x : H k <;> cases y : H2 k
      · rfl
      · rw [x, y] at a4; exact absurd (a4.mpr rfl) (by decide)
      · rw [x, y] at a4; exact absurd (a4.mp rfl) (by decide)
      · rfl
  intro k hk
  exact key _ k hk (Nat.lt_succ_self _)
/-- one pass over all: those of one height get their spectra, the next height is found -/
def hb (H : Nat → Int32) (k : Nat) : Bool := decide (¬ H k = 0)
def lpS (n : Nat) (T F Pt : Nat → Int32) (f high : Int32) (k : Nat) (q : Int32 × (Nat → Int32)) : Int32 × (Nat → Int32) :=
  (if T k < high then (if T k ≤ q.1 then q.1 else T k) else q.1, up q.2 k (if q.2 k = 0 then (if T k = high then bI (frI F Pt q.2 f k n) else 0) else 1))
def lpP (n : Nat) (T F Pt : Nat → Int32) (f high : Int32) (H : Nat → Int32) (t : Nat) : Int32 × (Nat → Int32) := it t (0, H) fun k q => lpS n T F Pt f high k q
def ner (F Pt : Nat → Int32) (f : Int32) (k m : Nat) : Bool := decide (Pt m = Pt k) && decide (bwI F k m < f)
theorem frI_t {F Pt H : Nat → Int32} {f : Int32} {k : Nat} : ∀ t, frI F Pt H f k t = true ↔ ∀ m, m < t → hb H m = true → ner F Pt f k m = false := by
  intro t
  induction t with
  | zero => exact ⟨fun _ m hm => absurd hm (by omega), fun _ => rfl⟩
  | succ t ih =>
    rw [frI, it_s, ← frI, Bool.and_eq_true, ih]
    have e : nrI F Pt H f k t = (hb H t && ner F Pt f k t) := rfl
    rw [e]
    constructor
    · rintro ⟨h1, h2⟩ m hm hx
      by_cases c : m = t
      · subst c; rw [hx] at h2; simpa using h2
      · exact h1 m (by omega) hx
    · intro h1
      refine ⟨fun m hm hx => h1 m (by omega) hx, ?_⟩
      cases x : hb H t
      · rfl
      · rw [h1 t (by omega) x]; rfl
/-- as far as a height, spectra are given -/
def spH (n : Nat) (T F Pt : Nat → Int32) (f : Int32) (high : Int) (H : Nat → Int32) : Prop :=
  (∀ k, k < n → H k = 0 ∨ H k = 1) ∧ (∀ k, k < n → high < (T k).toInt → (hb H k = true ↔ ∀ m, m < n → bef (fun k => (T k).toInt) m k → hb H m = true → ner F Pt f k m = false)) ∧ ∀ k, k < n → ¬ high < (T k).toInt → hb H k = false
theorem lpP_ok {n : Nat} {T F Pt : Nat → Int32} {f high : Int32} {H : Nat → Int32} (h0 : 0 < high.toInt) (h : spH n T F Pt f high.toInt H) : 0 ≤ (lpP n T F Pt f high H n).1.toInt ∧ (lpP n T F Pt f high H n).1.toInt < high.toInt ∧ spH n T F Pt f (lpP n T F Pt f high H n).1.toInt (lpP n T F Pt f high H n).2 := by
  obtain ⟨g1, g2, g3⟩ := h
  have key : ∀ k, k ≤ n → (0 ≤ (lpP n T F Pt f high H k).1.toInt ∧ (lpP n T F Pt f high H k).1.toInt < high.toInt) ∧ (∀ j, j < k → (T j).toInt < high.toInt → (T j).toInt ≤ (lpP n T F Pt f high H k).1.toInt) ∧
      (∀ j, j < n → (lpP n T F Pt f high H k).2 j = 0 ∨ (lpP n T F Pt f high H k).2 j = 1) ∧ (∀ j, j < n → high.toInt < (T j).toInt → (lpP n T F Pt f high H k).2 j = H j) ∧
      (∀ j, j < n → (T j).toInt < high.toInt → hb (lpP n T F Pt f high H k).2 j = false) ∧ (∀ j, j < n → (T j).toInt = high.toInt → k ≤ j → hb (lpP n T F Pt f high H k).2 j = false) ∧
      (∀ j, j < k → (T j).toInt = high.toInt → (hb (lpP n T F Pt f high H k).2 j = true ↔ ∀ m, m < n → bef (fun k => (T k).toInt) m j → hb (lpP n T F Pt f high H k).2 m = true → ner F Pt f j m = false)) := by
    intro k
    induction k with
    | zero =>
      intro _
      refine ⟨⟨Int.le_refl _, h0⟩, fun j hj => absurd hj (by omega), g1, fun j _ _ => rfl, fun j hj hl => g3 j hj (by omega), fun j hj hl _ => g3 j hj (by omega), fun j hj => absurd hj (by omega)⟩
    | succ k ih =>
      intro hk
      obtain ⟨⟨a1, a2⟩, a3, a4, a5, a6, a7, a8⟩ := ih (by omega)
      have hs : lpP n T F Pt f high H (k + 1) = lpS n T F Pt f high k (lpP n T F Pt f high H k) := rfl
      rw [hs]
      generalize lpP n T F Pt f high H k = q at *
      obtain ⟨z, G⟩ := q
      dsimp only at a1 a2 a3 a4 a5 a6 a7 a8
      unfold lpS
      dsimp only
      have hv : ∀ j, hb (up G k (if G k = 0 then (if T k = high then bI (frI F Pt G f k n) else 0) else 1)) j = if j = k then (if G k = 0 then (if T k = high then frI F Pt G f k n else false) else true) else hb G j := by
        intro j
        unfold hb up
        by_cases e : j = k
        · subst e
          simp only [if_true]
          by_cases c1 : G j = 0
          · simp only [c1, if_true]
            by_cases c2 : T j = high
            · simp only [c2, if_true]
              cases frI F Pt G f j n <;> rfl
            · simp only [c2, if_false]; rfl
          · simp only [c1, if_false]; rfl
        · simp only [e, if_false]
      have hTi : (T k = high) = ((T k).toInt = high.toInt) := by rw [Int32.toInt_inj]
      refine ⟨?_, ?_, ?_, ?_, ?_, ?_, ?_⟩
      · split
        · rename_i c
          rw [Int32.lt_iff_toInt_lt] at c
          split
          · exact ⟨a1, a2⟩
          · rename_i c2
            rw [Int32.le_iff_toInt_le] at c2
            exact ⟨by omega, c⟩
        · exact ⟨a1, a2⟩
      · intro j hj hl
        by_cases e : j = k
        · subst e
          rw [if_pos (by rw [Int32.lt_iff_toInt_lt]; exact hl)]
          split
          · rename_i c2; rw [Int32.le_iff_toInt_le] at c2; exact c2
          · exact Int.le_refl _
        · have := a3 j (by omega) hl
          split
          · split
            · exact this
            · rename_i c2; rw [Int32.le_iff_toInt_le] at c2; omega
          · exact this
      · intro j hj
        by_cases e : j = k
        · subst e
          rw [up_s]
          split
          · split
            · cases frI F Pt G f j n
              · exact Or.inl rfl
              · exact Or.inr rfl
            · exact Or.inl rfl
          · exact Or.inr rfl
        · rw [up_n e]; exact a4 j hj
      · intro j hj hl
        by_cases e : j = k
        · subst e
          rw [up_s, ← a5 j hj hl]
          rcases a4 j hj with c | c
          · rw [if_pos c, if_neg (by rw [hTi]; omega), c]
          · rw [if_neg (by rw [c]; decide), c]
        · rw [up_n e]; exact a5 j hj hl
      · intro j hj hl
        rw [hv]
        by_cases e : j = k
        · subst e
          have := a6 j hj hl
          have g0 : G j = 0 := by unfold hb at this; simpa using this
          rw [if_pos rfl, if_pos g0, if_neg (by rw [hTi]; omega)]
        · rw [if_neg e]; exact a6 j hj hl
      · intro j hj hl hkj
        rw [hv, if_neg (by omega)]
        exact a7 j hj hl (by omega)
      · intro j hj hl
        have same : ∀ m, m < n → bef (fun k => (T k).toInt) m j → hb (up G k (if G k = 0 then (if T k = high then bI (frI F Pt G f k n) else 0) else 1)) m = hb G m := by
          intro m hm hbf
          rw [hv]
          by_cases e : m = k
          · subst e
            rw [if_pos rfl]
            unfold bef at hbf
            dsimp only at hbf
            have : ¬ (T m).toInt = high.toInt := by omega
            unfold hb
            by_cases c1 : G m = 0
            · rw [if_pos c1, if_neg (by rw [hTi]; exact this)]; simp [c1]
            · rw [if_neg c1]; simp [c1]
          · rw [if_neg e]
        by_cases e : j = k
        · subst e
          have g0 : G j = 0 := by have := a7 j (by omega) hl (Nat.le_refl _); unfold hb at this; simpa using this
          rw [hv, if_pos rfl, if_pos g0, if_pos (by rw [hTi]; exact hl), frI_t]
          constructor
          · intro q m hm hbf hx
            rw [same m hm hbf] at hx
            exact q m hm hx
          · intro q m hm hx
            have hbf : bef (fun k => (T k).toInt) m j := by
              unfold bef
              dsimp only
              by_cases c1 : (T m).toInt < high.toInt
              · rw [a6 m hm c1] at hx; cases hx
              · by_cases c2 : (T m).toInt = high.toInt
                · by_cases c3 : j ≤ m
                  · rw [a7 m hm c2 c3] at hx; cases hx
                  · omega
                · omega
            exact q m hm hbf (by rw [same m hm hbf]; exact hx)
        · rw [hv, if_neg e, a8 j (by omega) hl]
          constructor
          · intro q m hm hbf hx
            rw [same m hm hbf] at hx
            exact q m hm hbf hx
          · intro q m hm hbf hx
            exact q m hm hbf (by rw [same m hm hbf]; exact hx)
  obtain ⟨⟨a1, a2⟩, a3, a4, a5, a6, a7, a8⟩ := key n (Nat.le_refl _)
  generalize lpP n T F Pt f high H n = q at *
  obtain ⟨z, G⟩ := q
  dsimp only at a1 a2 a3 a4 a5 a6 a7 a8 ⊢
  refine ⟨a1, a2, a4, fun k hk hl => ?_, fun k hk hl => ?_⟩
  · by_cases c1 : (T k).toInt = high.toInt
    · exact a8 k hk c1
    · have c2 : high.toInt < (T k).toInt := by
        by_cases c : (T k).toInt < high.toInt
        · have := a3 k hk c; omega
        · omega
      have e1 : ∀ m, m < n → bef (fun k => (T k).toInt) m k → hb G m = hb H m := by
        intro m hm hbf
        unfold hb
        rw [a5 m hm (by unfold bef at hbf; dsimp only at hbf; omega)]
      have e2 : hb G k = hb H k := by unfold hb; rw [a5 k hk c2]
      rw [e2, g2 k hk c2]
      constructor
      · intro q m hm hbf hx
        rw [e1 m hm hbf] at hx
        exact q m hm hbf hx
      · intro q m hm hbf hx
        exact q m hm hbf (by rw [e1 m hm hbf]; exact hx)
  · exact a6 k hk (by omega)
section
variable {g : hf_G} {I I2 : hf_I} {J : hf_J} {a b c k l m n s p q cl P : Nat} {u v w : Int64} {i j x y : Int32} {S B F H : Nat → Int32} {cn : Nat → Nat} {Q : Q4} {K : hf_I} {W : V5}
/-- the stars of one that is seen -/
def stV (K : hf_I) (V : Nat → Int32) (k : Nat) : Int32 := K 285 (64 * ((V k).toNatClampNeg / 100) + (V k).toNatClampNeg % 100)
theorem m_stV (h : Md g) (hn : n ≤ 768) (hV : dcV W.1 n) (hk : k < n) : hf_rn 216 0 [some (.ref 270), some (.int (nI k))] [] g (lQ K n W) J = some (.inl (some (.int (stV K W.1 k))), g, lQ K n W, J) := by
  obtain ⟨a, b, ha, hb, hv⟩ := hV k hk
  have := m_starsOf (I := lQ K n W) (J := J) (a := a) (b := b) h (show k < 768 by omega) (by rw [lQ_v]; exact hv) (by omega) (by omega)
  rw [this, stV, hv, nI_clamp (by omega), show (100 * a + b) / 100 = a by omega, show (100 * a + b) % 100 = b by omega, lQ_n (by decide) (by decide)]
def mxI (T : Nat → Int32) (t : Nat) : Int32 := it t 0 fun k z => if T k ≤ z then z else T k
theorem mxI_ok {T : Nat → Int32} : ∀ t, 0 ≤ (mxI T t).toInt ∧ ∀ k, k < t → (T k).toInt ≤ (mxI T t).toInt := by
  intro t
  induction t with
  | zero => exact ⟨Int.le_refl _, fun k hk => absurd hk (by omega)⟩
  | succ t ih =>
    obtain ⟨h1, h2⟩ := ih
    rw [mxI, it_s, ← mxI]
    split
    · rename_i c
      rw [Int32.le_iff_toInt_le] at c
      refine ⟨h1, fun k hk => ?_⟩
      by_cases e : k = t
      · subst e; exact c
      · exact h2 k (by omega)
    · rename_i c
      rw [Int32.le_iff_toInt_le] at c
      refine ⟨by omega, fun k hk => ?_⟩
      by_cases e : k = t
      · subst e; exact Int.le_refl _
      · have := h2 k (by omega); omega
theorem m_looks2 (h : Md g) (hn : n ≤ 768) (hV : dcV W.1 n) (hT : ∀ k, k < n → 0 < (stV K W.1 k).toInt) (hH : ∀ k, k < n → W.2.2.2.2 k = 0) :
    ∃ H, spH n (stV K W.1) W.2.1 W.2.2.2.1 (K 270 14) 0 H ∧ ∀ l1 l2 l3, hf_rn 218 51 [some (.ref 270), l1, l2, l3] [] g (lQ K n W) J = some (.inl none, g, lQ K n (W.1, W.2.1, W.2.2.1, W.2.2.2.1, H), J) := by
  obtain ⟨V, F, R, Pt, H0⟩ := W
  dsimp only at hV hT hH ⊢
  have hst : ∀ H k, k < n → hf_rn 216 0 [some (.ref 270), some (.int (nI k))] [] g (lQ K n (V, F, R, Pt, H)) J = some (.inl (some (.int (stV K V k))), g, lQ K n (V, F, R, Pt, H), J) := fun H k hk => m_stV h hn hV hk
  have hfr : ∀ H k, k < n → hf_rn 217 0 [some (.ref 270), some (.int (nI k)), none, none, none] [] g (lQ K n (V, F, R, Pt, H)) J = some (.inl (some (.int (bI (frI F Pt H (K 270 14) k n)))), g, lQ K n (V, F, R, Pt, H), J) := fun H k hk => m_isFree h hn (by omega)
  generalize stV K V = T at *
  -- one pass
  have pass : ∀ (high : Int32) (H : Nat → Int32) (Rs : Option hf_R) (l3 : Option Value), (∀ k, k < n → H k = 0 ∨ H k = 1) →
      (∀ l3, hf_rn 218 175 [some (.ref 270), some (.int high), some (.int (lpP n T F Pt (K 270 14) high H n).1), l3] [] g (lQ K n (V, F, R, Pt, (lpP n T F Pt (K 270 14) high H n).2)) J = Rs) →
      hf_rn 218 96 [some (.ref 270), some (.int high), some (.int 0), some (.int (nI 0))] [] g (lQ K n (V, F, R, Pt, H)) J = Rs := by
    intro high H Rs l3 h01 hR
    refine down (n := n) (s := ((0 : Int32), H)) (f := fun k q => lpS n T F Pt (K 270 14) high k q) (fun t q => hf_rn 218 96 [some (.ref 270), some (.int high), some (.int q.1), some (.int (nI t))] [] g (lQ K n (V, F, R, Pt, q.2)) J = Rs) ?_ ?_
    · simp only [s218_96, s218_97, s218_98, s218_101, s218_104, s218_105, s218_108, s218_109, s218_110, s218_113, s218_114, s218_115, s218_118, s218_119, s218_120, s218_123, s218_124, s218_127, s218_128, s218_129, s218_132, s218_135, s218_136, s218_139, s218_140, s218_141, s218_142, s218_143, s218_146, s218_147, s218_150, s218_151, s218_152, s218_155, s218_156, s218_159, s218_160, s218_161, s218_164, s218_167, s218_168, s218_169, hf_bd_v, hf_bd_n, hf_iv_i, hf_iv_l, hf_iv_a, hf_iv_n, hf_iv_2, z_lgl, z_lgg, z_lge, z_lgle, z_lgz, Option.getD_some, Option.isSome_some, ↓reduceIte, not_true_eq_false, not_false_eq_true, Option.toList_some, Option.toList_none, List.cons_append, List.nil_append, Nat.reduceAdd, Nat.add_assoc, ku_ne, ku_same, ne_eq, Nat.reduceEqDiff, reduceCtorEq, Nat.add_eq_left, Nat.left_eq_add, Nat.reduceEqDiff, q10, q_ne, true_or, or_true, md_k h, md_r16 h, md_k271 h, md_r17 h, md_k272 h, md_r18 h, md_k273 h, md_r19 h, md_k274 h, md_r20 h, md_k275 h, md_r21 h, md_k276 h, md_r22 h, md_k277 h, md_r23 h, md_k278 h, md_r24 h, md_k279 h, md_r25 h, md_k280 h, md_r26 h, md_k281 h, md_r27 h, md_k282 h, md_r28 h, md_k283 h, md_r29 h, md_k284 h, md_r30 h, md_k285 h, md_r31 h, md_k286 h, md_r33 h, md_k287 h, md_r34 h, md_k288 h, md_r35 h, md_k289 h, md_r36 h, md_k290 h, md_r37 h, md_k291 h, lQ_32, z_ii (show n < 2147483648 by omega) (show n < 2147483648 by omega), Nat.le_refl]
      exact hR _
    · intro t q ht hx ih
      have hk1 : ¬ n ≤ t := by omega
      have ht7 : t < 768 := by omega
      obtain ⟨z, G⟩ := q
      dsimp only at ih ⊢
      unfold lpS at ih
      dsimp only at ih
      -- the second half
      have half : ∀ Gk : Int32, Gk = (if G t = 0 then (if T t = high then bI (frI F Pt G (K 270 14) t n) else 0) else 1) → hf_rn 218 141 [some (.ref 270), some (.int high), some (.int z), some (.int (nI t))] [] g (lQ K n (V, F, R, Pt, up G t Gk)) J = Rs := by
        intro Gk hG
        rw [← hG] at ih
        have hs1 := hst (up G t Gk) t ht
        by_cases c1 : T t < high
        · have c1' := I_nle c1
          rw [if_pos c1] at ih
          by_cases c2 : T t ≤ z
          · rw [if_pos c2] at ih
            simp only [s218_141, s218_142, s218_143, s218_146, s218_147, s218_150, s218_151, s218_152, s218_155, s218_156, s218_159, s218_160, s218_161, s218_164, s218_167, s218_168, s218_169, hf_bd_v, hf_bd_n, hf_iv_i, hf_iv_l, hf_iv_a, hf_iv_n, hf_iv_2, z_lgl, z_lgg, z_lge, z_lgle, z_lgz, Option.getD_some, Option.isSome_some, ↓reduceIte, not_true_eq_false, not_false_eq_true, Option.toList_some, Option.toList_none, List.cons_append, List.nil_append, Nat.reduceAdd, Nat.add_assoc, ku_ne, ku_same, ne_eq, Nat.reduceEqDiff, reduceCtorEq, Nat.add_eq_left, Nat.left_eq_add, Nat.reduceEqDiff, q10, q_ne, true_or, or_true, h.1, hs1, c1', c2, z_1]
            rw [s218_172]
            exact ih
          · rw [if_neg c2] at ih
            simp only [s218_141, s218_142, s218_143, s218_146, s218_147, s218_150, s218_151, s218_152, s218_155, s218_156, s218_159, s218_160, s218_161, s218_164, s218_167, s218_168, s218_169, hf_bd_v, hf_bd_n, hf_iv_i, hf_iv_l, hf_iv_a, hf_iv_n, hf_iv_2, z_lgl, z_lgg, z_lge, z_lgle, z_lgz, Option.getD_some, Option.isSome_some, ↓reduceIte, not_true_eq_false, not_false_eq_true, Option.toList_some, Option.toList_none, List.cons_append, List.nil_append, Nat.reduceAdd, Nat.add_assoc, ku_ne, ku_same, ne_eq, Nat.reduceEqDiff, reduceCtorEq, Nat.add_eq_left, Nat.left_eq_add, Nat.reduceEqDiff, q10, q_ne, true_or, or_true, h.1, hs1, c1', c2, z_1]
            rw [s218_172]
            exact ih
        · have c1' := I_le c1
          rw [if_neg c1] at ih
          simp only [s218_141, s218_142, s218_143, s218_146, s218_147, s218_150, s218_151, s218_152, s218_155, s218_156, s218_159, s218_160, s218_161, s218_164, s218_167, s218_168, s218_169, hf_bd_v, hf_bd_n, hf_iv_i, hf_iv_l, hf_iv_a, hf_iv_n, hf_iv_2, z_lgl, z_lgg, z_lge, z_lgle, z_lgz, Option.getD_some, Option.isSome_some, ↓reduceIte, not_true_eq_false, not_false_eq_true, Option.toList_some, Option.toList_none, List.cons_append, List.nil_append, Nat.reduceAdd, Nat.add_assoc, ku_ne, ku_same, ne_eq, Nat.reduceEqDiff, reduceCtorEq, Nat.add_eq_left, Nat.left_eq_add, Nat.reduceEqDiff, q10, q_ne, true_or, or_true, h.1, hs1, c1', z_1]
          rw [s218_172]
          exact ih
      by_cases c0 : G t = 0
      · by_cases c1 : T t = high
        · have hf := hfr G t ht
          have hs1 := hst G t ht
          rw [c1] at hs1
          cases e : frI F Pt G (K 270 14) t n
          · rw [e] at hf
            simp only [s218_96, s218_97, s218_98, s218_101, s218_104, s218_105, s218_108, s218_109, s218_110, s218_113, s218_114, s218_115, s218_118, s218_119, s218_120, s218_123, s218_124, s218_127, s218_128, s218_129, s218_132, s218_135, s218_136, s218_139, s218_140, hf_bd_v, hf_bd_n, hf_iv_i, hf_iv_l, hf_iv_a, hf_iv_n, hf_iv_2, z_lgl, z_lgg, z_lge, z_lgle, z_lgz, Option.getD_some, Option.isSome_some, ↓reduceIte, not_true_eq_false, not_false_eq_true, Option.toList_some, Option.toList_none, List.cons_append, List.nil_append, Nat.reduceAdd, Nat.add_assoc, ku_ne, ku_same, ne_eq, Nat.reduceEqDiff, reduceCtorEq, Nat.add_eq_left, Nat.left_eq_add, Nat.reduceEqDiff, q10, q_ne, true_or, or_true, md_k h, md_r16 h, md_k271 h, md_r17 h, md_k272 h, md_r18 h, md_k273 h, md_r19 h, md_k274 h, md_r20 h, md_k275 h, md_r21 h, md_k276 h, md_r22 h, md_k277 h, md_r23 h, md_k278 h, md_r24 h, md_k279 h, md_r25 h, md_k280 h, md_r26 h, md_k281 h, md_r27 h, md_k282 h, md_r28 h, md_k283 h, md_r29 h, md_k284 h, md_r30 h, md_k285 h, md_r31 h, md_k286 h, md_r33 h, md_k287 h, md_r34 h, md_k288 h, md_r35 h, md_k289 h, md_r36 h, md_k290 h, md_r37 h, md_k291 h, h.1, lQ_32, lQ_h, z_ii (show n < 2147483648 by omega) (show t < 2147483648 by omega), hk1, z_in (show t < 2147483648 by omega), z_cl (show t < 2147483648 by omega), ht7, decide_true, c0, hs1, hf, bI_f, lQ_uh]
            exact half 0 (by rw [if_pos c0, if_pos c1, e]; rfl)
          · rw [e] at hf
            simp only [s218_96, s218_97, s218_98, s218_101, s218_104, s218_105, s218_108, s218_109, s218_110, s218_113, s218_114, s218_115, s218_118, s218_119, s218_120, s218_123, s218_124, s218_127, s218_128, s218_129, s218_132, s218_135, s218_136, s218_139, s218_140, hf_bd_v, hf_bd_n, hf_iv_i, hf_iv_l, hf_iv_a, hf_iv_n, hf_iv_2, z_lgl, z_lgg, z_lge, z_lgle, z_lgz, Option.getD_some, Option.isSome_some, ↓reduceIte, not_true_eq_false, not_false_eq_true, Option.toList_some, Option.toList_none, List.cons_append, List.nil_append, Nat.reduceAdd, Nat.add_assoc, ku_ne, ku_same, ne_eq, Nat.reduceEqDiff, reduceCtorEq, Nat.add_eq_left, Nat.left_eq_add, Nat.reduceEqDiff, q10, q_ne, true_or, or_true, md_k h, md_r16 h, md_k271 h, md_r17 h, md_k272 h, md_r18 h, md_k273 h, md_r19 h, md_k274 h, md_r20 h, md_k275 h, md_r21 h, md_k276 h, md_r22 h, md_k277 h, md_r23 h, md_k278 h, md_r24 h, md_k279 h, md_r25 h, md_k280 h, md_r26 h, md_k281 h, md_r27 h, md_k282 h, md_r28 h, md_k283 h, md_r29 h, md_k284 h, md_r30 h, md_k285 h, md_r31 h, md_k286 h, md_r33 h, md_k287 h, md_r34 h, md_k288 h, md_r35 h, md_k289 h, md_r36 h, md_k290 h, md_r37 h, md_k291 h, h.1, lQ_32, lQ_h, z_ii (show n < 2147483648 by omega) (show t < 2147483648 by omega), hk1, z_in (show t < 2147483648 by omega), z_cl (show t < 2147483648 by omega), ht7, decide_true, c0, hs1, hf, bI_t, lQ_uh]
            exact half 1 (by rw [if_pos c0, if_pos c1, e]; rfl)
        · have hs1 := hst G t ht
          simp only [s218_96, s218_97, s218_98, s218_101, s218_104, s218_105, s218_108, s218_109, s218_110, s218_113, s218_114, s218_115, s218_118, s218_119, s218_120, s218_123, s218_124, s218_127, s218_128, s218_129, s218_132, s218_135, s218_136, s218_139, s218_140, hf_bd_v, hf_bd_n, hf_iv_i, hf_iv_l, hf_iv_a, hf_iv_n, hf_iv_2, z_lgl, z_lgg, z_lge, z_lgle, z_lgz, Option.getD_some, Option.isSome_some, ↓reduceIte, not_true_eq_false, not_false_eq_true, Option.toList_some, Option.toList_none, List.cons_append, List.nil_append, Nat.reduceAdd, Nat.add_assoc, ku_ne, ku_same, ne_eq, Nat.reduceEqDiff, reduceCtorEq, Nat.add_eq_left, Nat.left_eq_add, Nat.reduceEqDiff, q10, q_ne, true_or, or_true, md_k h, md_r16 h, md_k271 h, md_r17 h, md_k272 h, md_r18 h, md_k273 h, md_r19 h, md_k274 h, md_r20 h, md_k275 h, md_r21 h, md_k276 h, md_r22 h, md_k277 h, md_r23 h, md_k278 h, md_r24 h, md_k279 h, md_r25 h, md_k280 h, md_r26 h, md_k281 h, md_r27 h, md_k282 h, md_r28 h, md_k283 h, md_r29 h, md_k284 h, md_r30 h, md_k285 h, md_r31 h, md_k286 h, md_r33 h, md_k287 h, md_r34 h, md_k288 h, md_r35 h, md_k289 h, md_r36 h, md_k290 h, md_r37 h, md_k291 h, h.1, lQ_32, lQ_h, z_ii (show n < 2147483648 by omega) (show t < 2147483648 by omega), hk1, z_in (show t < 2147483648 by omega), z_cl (show t < 2147483648 by omega), ht7, decide_true, c0, hs1, c1, lQ_uh]
          exact half 0 (by rw [if_pos c0, if_neg c1])
      · simp only [s218_96, s218_97, s218_98, s218_101, s218_104, s218_105, s218_108, s218_109, s218_110, s218_113, s218_114, s218_115, s218_118, s218_119, s218_120, s218_123, s218_124, s218_127, s218_128, s218_129, s218_132, s218_135, s218_136, s218_139, s218_140, hf_bd_v, hf_bd_n, hf_iv_i, hf_iv_l, hf_iv_a, hf_iv_n, hf_iv_2, z_lgl, z_lgg, z_lge, z_lgle, z_lgz, Option.getD_some, Option.isSome_some, ↓reduceIte, not_true_eq_false, not_false_eq_true, Option.toList_some, Option.toList_none, List.cons_append, List.nil_append, Nat.reduceAdd, Nat.add_assoc, ku_ne, ku_same, ne_eq, Nat.reduceEqDiff, reduceCtorEq, Nat.add_eq_left, Nat.left_eq_add, Nat.reduceEqDiff, q10, q_ne, true_or, or_true, md_k h, md_r16 h, md_k271 h, md_r17 h, md_k272 h, md_r18 h, md_k273 h, md_r19 h, md_k274 h, md_r20 h, md_k275 h, md_r21 h, md_k276 h, md_r22 h, md_k277 h, md_r23 h, md_k278 h, md_r24 h, md_k279 h, md_r25 h, md_k280 h, md_r26 h, md_k281 h, md_r27 h, md_k282 h, md_r28 h, md_k283 h, md_r29 h, md_k284 h, md_r30 h, md_k285 h, md_r31 h, md_k286 h, md_r33 h, md_k287 h, md_r34 h, md_k288 h, md_r35 h, md_k289 h, md_r36 h, md_k290 h, md_r37 h, md_k291 h, h.1, lQ_32, lQ_h, z_ii (show n < 2147483648 by omega) (show t < 2147483648 by omega), hk1, z_in (show t < 2147483648 by omega), z_cl (show t < 2147483648 by omega), ht7, decide_true, c0, lQ_uh]
        exact half 1 (by rw [if_neg c0])
  -- all heights
  have whl : ∀ (d : Nat) (high : Int32) (H : Nat → Int32), high.toInt ≤ d → 0 ≤ high.toInt → spH n T F Pt (K 270 14) high.toInt H → ∃ H2, spH n T F Pt (K 270 14) 0 H2 ∧ ∀ l2 l3, hf_rn 218 88 [some (.ref 270), some (.int high), l2, l3] [] g (lQ K n (V, F, R, Pt, H)) J = some (.inl none, g, lQ K n (V, F, R, Pt, H2), J) := by
    intro d
    induction d with
    | zero =>
      intro high H hd h0 hs
      have e : high.toInt = 0 := by omega
      have c0 : high ≤ 0 := by rw [Int32.le_iff_toInt_le, e]; decide
      rw [e] at hs
      refine ⟨H, hs, fun l2 l3 => ?_⟩
      simp only [s218_88, s218_89, s218_92, s218_93, s218_94, s218_95, s218_180, hf_bd_v, hf_bd_n, hf_iv_i, hf_iv_l, hf_iv_a, hf_iv_n, hf_iv_2, z_lgl, z_lgg, z_lge, z_lgle, z_lgz, Option.getD_some, Option.isSome_some, ↓reduceIte, not_true_eq_false, not_false_eq_true, Option.toList_some, Option.toList_none, List.cons_append, List.nil_append, Nat.reduceAdd, Nat.add_assoc, ku_ne, ku_same, ne_eq, Nat.reduceEqDiff, reduceCtorEq, Nat.add_eq_left, Nat.left_eq_add, Nat.reduceEqDiff, q10, q_ne, true_or, or_true, c0]
    | succ d ih =>
      intro high H hd h0 hs
      by_cases e : high.toInt = 0
      · have c0 : high ≤ 0 := by rw [Int32.le_iff_toInt_le, e]; decide
        rw [e] at hs
        refine ⟨H, hs, fun l2 l3 => ?_⟩
        simp only [s218_88, s218_89, s218_92, s218_93, s218_94, s218_95, s218_180, hf_bd_v, hf_bd_n, hf_iv_i, hf_iv_l, hf_iv_a, hf_iv_n, hf_iv_2, z_lgl, z_lgg, z_lge, z_lgle, z_lgz, Option.getD_some, Option.isSome_some, ↓reduceIte, not_true_eq_false, not_false_eq_true, Option.toList_some, Option.toList_none, List.cons_append, List.nil_append, Nat.reduceAdd, Nat.add_assoc, ku_ne, ku_same, ne_eq, Nat.reduceEqDiff, reduceCtorEq, Nat.add_eq_left, Nat.left_eq_add, Nat.reduceEqDiff, q10, q_ne, true_or, or_true, c0]
      · have c0 : ¬ high ≤ 0 := by rw [Int32.le_iff_toInt_le]; have : (0 : Int32).toInt = 0 := rfl; omega
        obtain ⟨a1, a2, a3⟩ := lpP_ok (high := high) (by omega) hs
        obtain ⟨H2, b1, b2⟩ := ih _ _ (by omega) a1 a3
        refine ⟨H2, b1, fun l2 l3 => ?_⟩
        simp only [s218_88, s218_89, s218_92, s218_93, s218_94, s218_95, hf_bd_v, hf_bd_n, hf_iv_i, hf_iv_l, hf_iv_a, hf_iv_n, hf_iv_2, z_lgl, z_lgg, z_lge, z_lgle, z_lgz, Option.getD_some, Option.isSome_some, ↓reduceIte, not_true_eq_false, not_false_eq_true, Option.toList_some, Option.toList_none, List.cons_append, List.nil_append, Nat.reduceAdd, Nat.add_assoc, ku_ne, ku_same, ne_eq, Nat.reduceEqDiff, reduceCtorEq, Nat.add_eq_left, Nat.left_eq_add, Nat.reduceEqDiff, q10, q_ne, true_or, or_true, c0]
        refine pass high H _ l3 hs.1 (fun l3 => ?_)
        simp only [s218_175, s218_176, hf_bd_v, hf_bd_n, hf_iv_i, hf_iv_l, hf_iv_a, hf_iv_n, hf_iv_2, z_lgl, z_lgg, z_lge, z_lgle, z_lgz, Option.getD_some, Option.isSome_some, ↓reduceIte, not_true_eq_false, not_false_eq_true, Option.toList_some, Option.toList_none, List.cons_append, List.nil_append, Nat.reduceAdd, Nat.add_assoc, ku_ne, ku_same, ne_eq, Nat.reduceEqDiff, reduceCtorEq, Nat.add_eq_left, Nat.left_eq_add, Nat.reduceEqDiff, q10, q_ne, true_or, or_true]
        rw [s218_177]
        exact b2 _ _
  obtain ⟨m1, m2⟩ := @mxI_ok T n
  obtain ⟨H2, b1, b2⟩ := whl (mxI T n).toInt.toNat (mxI T n) H0 (by omega) m1 ⟨fun k hk => Or.inl (hH k hk), fun k hk hl => absurd (m2 k hk) (by omega), fun k hk _ => by unfold hb; simp [hH k hk]⟩
  refine ⟨H2, b1, fun l1 l2 l3 => ?_⟩
  have loop : hf_rn 218 55 [some (.ref 270), some (.int 0), some (.int (nI 0)), l3] [] g (lQ K n (V, F, R, Pt, H0)) J = some (.inl none, g, lQ K n (V, F, R, Pt, H2), J) := by
    refine down (n := n) (s := (0 : Int32)) (f := fun k z => if T k ≤ z then z else T k) (fun t z => hf_rn 218 55 [some (.ref 270), some (.int z), some (.int (nI t)), l3] [] g (lQ K n (V, F, R, Pt, H0)) J = some (.inl none, g, lQ K n (V, F, R, Pt, H2), J)) ?_ ?_
    · simp only [s218_55, s218_56, s218_57, s218_60, s218_63, s218_64, s218_65, s218_68, s218_69, s218_72, s218_73, s218_74, s218_77, s218_80, s218_81, s218_82, hf_bd_v, hf_bd_n, hf_iv_i, hf_iv_l, hf_iv_a, hf_iv_n, hf_iv_2, z_lgl, z_lgg, z_lge, z_lgle, z_lgz, Option.getD_some, Option.isSome_some, ↓reduceIte, not_true_eq_false, not_false_eq_true, Option.toList_some, Option.toList_none, List.cons_append, List.nil_append, Nat.reduceAdd, Nat.add_assoc, ku_ne, ku_same, ne_eq, Nat.reduceEqDiff, reduceCtorEq, Nat.add_eq_left, Nat.left_eq_add, Nat.reduceEqDiff, q10, q_ne, true_or, or_true, md_k h, md_r16 h, md_k271 h, md_r17 h, md_k272 h, md_r18 h, md_k273 h, md_r19 h, md_k274 h, md_r20 h, md_k275 h, md_r21 h, md_k276 h, md_r22 h, md_k277 h, md_r23 h, md_k278 h, md_r24 h, md_k279 h, md_r25 h, md_k280 h, md_r26 h, md_k281 h, md_r27 h, md_k282 h, md_r28 h, md_k283 h, md_r29 h, md_k284 h, md_r30 h, md_k285 h, md_r31 h, md_k286 h, md_r33 h, md_k287 h, md_r34 h, md_k288 h, md_r35 h, md_k289 h, md_r36 h, md_k290 h, md_r37 h, md_k291 h, lQ_32, z_ii (show n < 2147483648 by omega) (show n < 2147483648 by omega), Nat.le_refl]
      exact b2 _ _
    · intro t z ht hx ih
      have hk1 : ¬ n ≤ t := by omega
      have hs1 := hst H0 t ht
      by_cases c1 : T t ≤ z
      · rw [if_pos c1] at ih
        simp only [s218_55, s218_56, s218_57, s218_60, s218_63, s218_64, s218_65, s218_68, s218_69, s218_72, s218_73, s218_74, s218_77, s218_80, s218_81, s218_82, hf_bd_v, hf_bd_n, hf_iv_i, hf_iv_l, hf_iv_a, hf_iv_n, hf_iv_2, z_lgl, z_lgg, z_lge, z_lgle, z_lgz, Option.getD_some, Option.isSome_some, ↓reduceIte, not_true_eq_false, not_false_eq_true, Option.toList_some, Option.toList_none, List.cons_append, List.nil_append, Nat.reduceAdd, Nat.add_assoc, ku_ne, ku_same, ne_eq, Nat.reduceEqDiff, reduceCtorEq, Nat.add_eq_left, Nat.left_eq_add, Nat.reduceEqDiff, q10, q_ne, true_or, or_true, md_k h, md_r16 h, md_k271 h, md_r17 h, md_k272 h, md_r18 h, md_k273 h, md_r19 h, md_k274 h, md_r20 h, md_k275 h, md_r21 h, md_k276 h, md_r22 h, md_k277 h, md_r23 h, md_k278 h, md_r24 h, md_k279 h, md_r25 h, md_k280 h, md_r26 h, md_k281 h, md_r27 h, md_k282 h, md_r28 h, md_k283 h, md_r29 h, md_k284 h, md_r30 h, md_k285 h, md_r31 h, md_k286 h, md_r33 h, md_k287 h, md_r34 h, md_k288 h, md_r35 h, md_k289 h, md_r36 h, md_k290 h, md_r37 h, md_k291 h, h.1, lQ_32, z_ii (show n < 2147483648 by omega) (show t < 2147483648 by omega), hk1, z_1, hs1, c1]
        rw [s218_85]
        exact ih
      · rw [if_neg c1] at ih
        simp only [s218_55, s218_56, s218_57, s218_60, s218_63, s218_64, s218_65, s218_68, s218_69, s218_72, s218_73, s218_74, s218_77, s218_80, s218_81, s218_82, hf_bd_v, hf_bd_n, hf_iv_i, hf_iv_l, hf_iv_a, hf_iv_n, hf_iv_2, z_lgl, z_lgg, z_lge, z_lgle, z_lgz, Option.getD_some, Option.isSome_some, ↓reduceIte, not_true_eq_false, not_false_eq_true, Option.toList_some, Option.toList_none, List.cons_append, List.nil_append, Nat.reduceAdd, Nat.add_assoc, ku_ne, ku_same, ne_eq, Nat.reduceEqDiff, reduceCtorEq, Nat.add_eq_left, Nat.left_eq_add, Nat.reduceEqDiff, q10, q_ne, true_or, or_true, md_k h, md_r16 h, md_k271 h, md_r17 h, md_k272 h, md_r18 h, md_k273 h, md_r19 h, md_k274 h, md_r20 h, md_k275 h, md_r21 h, md_k276 h, md_r22 h, md_k277 h, md_r23 h, md_k278 h, md_r24 h, md_k279 h, md_r25 h, md_k280 h, md_r26 h, md_k281 h, md_r27 h, md_k282 h, md_r28 h, md_k283 h, md_r29 h, md_k284 h, md_r30 h, md_k285 h, md_r31 h, md_k286 h, md_r33 h, md_k287 h, md_r34 h, md_k288 h, md_r35 h, md_k289 h, md_r36 h, md_k290 h, md_r37 h, md_k291 h, h.1, lQ_32, z_ii (show n < 2147483648 by omega) (show t < 2147483648 by omega), hk1, z_1, hs1, c1]
        rw [s218_85]
        exact ih
  simp only [s218_51, s218_52, s218_53, s218_54, hf_bd_v, hf_bd_n, hf_iv_i, hf_iv_l, hf_iv_a, hf_iv_n, hf_iv_2, z_lgl, z_lgg, z_lge, z_lgle, z_lgz, Option.getD_some, Option.isSome_some, ↓reduceIte, not_true_eq_false, not_false_eq_true, Option.toList_some, Option.toList_none, List.cons_append, List.nil_append, Nat.reduceAdd, Nat.add_assoc, ku_ne, ku_same, ne_eq, Nat.reduceEqDiff, reduceCtorEq, Nat.add_eq_left, Nat.left_eq_add, Nat.reduceEqDiff, q10, q_ne, true_or, or_true]
  exact loop
end
