section
variable {S T P D : Nat → Int64} {f v : Int64} {n b k t d j : Nat} {p : Nat → Bool}
theorem c2_pos (h : S k = 2) : ∀ n, k < n → 0 < c2 S n
  | 0, hk => absurd hk (Nat.not_lt_zero _)
  | n + 1, hk => by
    rw [c2_s]
    by_cases e : k = n
    · rw [← e, if_pos h]; omega
    · have := c2_pos h n (by omega)
      split <;> omega
theorem exB_t : ∀ d t, exB p d t = true ↔ ∃ j, t ≤ j ∧ j < t + d ∧ p j = true
  | 0, t => by
    constructor
    · intro q; cases q
    · rintro ⟨j, h1, h2, -⟩; omega
  | d + 1, t => by
    rw [exB, Bool.or_eq_true, exB_t d (t + 1)]
    constructor
    · rintro (h | ⟨j, h1, h2, h3⟩)
      · exact ⟨t, Nat.le_refl _, by omega, h⟩
      · exact ⟨j, by omega, by omega, h3⟩
    · rintro ⟨j, h1, h2, h3⟩
      by_cases e : j = t
      · subst e; exact Or.inl h3
      · exact Or.inr ⟨j, by omega, by omega, h3⟩
theorem brF_m (hT : ∀ k, k < n → 0 < T k) : ∀ t, t ≤ n → ((brF S T t).1 = -1 ∧ (brF S T t).2 = 0 ∧ ∀ k, k < t → S k ≠ 2) ∨ ∃ b, b < t ∧ S b = 2 ∧ brF S T t = (nI b, T b) ∧ (∀ k, k < t → S k = 2 → (T k).toInt ≤ (T b).toInt) ∧ ∀ k, k < b → S k = 2 → (T k).toInt < (T b).toInt
  | 0, _ => Or.inl ⟨rfl, rfl, fun k hk => absurd hk (Nat.not_lt_zero _)⟩
  | t + 1, ht => by
    have ih := brF_m hT t (by omega)
    rw [brF_s]
    rcases ih with ⟨h1, h2, h3⟩ | ⟨b, h1, h2, h3, h4, h5⟩
    · rw [h2]
      by_cases c : S t = 2
      · rw [if_pos ⟨c, hT t (by omega)⟩]
        refine Or.inr ⟨t, by omega, c, rfl, fun k hk hs => ?_, fun k hk hs => absurd hs (h3 k hk)⟩
        by_cases e : k = t
        · rw [e]; exact Int.le_refl _
        · exact absurd hs (h3 k (by omega))
      · rw [if_neg (fun q => c q.1)]
        refine Or.inl ⟨h1, h2, fun k hk => ?_⟩
        by_cases e : k = t
        · rw [e]; exact c
        · exact h3 k (by omega)
    · rw [h3]
      dsimp only
      by_cases c : S t = 2 ∧ T b < T t
      · rw [if_pos c]
        have h6 := Int64.lt_iff_toInt_lt.mp c.2
        refine Or.inr ⟨t, by omega, c.1, rfl, fun k hk hs => ?_, fun k hk hs => ?_⟩
        · by_cases e : k = t
          · rw [e]; exact Int.le_refl _
          · have := h4 k (by omega) hs; omega
        · have := h4 k (by omega) hs; omega
      · rw [if_neg c]
        refine Or.inr ⟨b, by omega, h2, rfl, fun k hk hs => ?_, h5⟩
        by_cases e : k = t
        · subst e
          have : ¬ T b < T k := fun q => c ⟨hs, q⟩
          rw [Int64.lt_iff_toInt_lt] at this
          omega
        · exact h4 k (by omega) hs
def nrC (P D : Nat → Int64) (f : Int64) (k m : Nat) : Bool := decide (P m = P k) && decide (aL (D m - D k) < f)
theorem gsF_iv (hn : n ≤ 768) (hT : ∀ k, k < n → 0 < T k) : ∀ t, t ≤ n → (∀ k, k < n → gsF n T P D f S t k = 0 ∨ gsF n T P D f S t k = 1 ∨ gsF n T P D f S t k = 2) ∧ c2 (gsF n T P D f S t) n = n - t ∧ (∀ m k, m < n → k < n → bef (fun k => (T k).toInt) m k → gsF n T P D f S t k ≠ 2 → gsF n T P D f S t m ≠ 2) ∧ ∀ k, k < n → gsF n T P D f S t k ≠ 2 → (gsF n T P D f S t k = 1 ↔ ∀ m, m < n → bef (fun k => (T k).toInt) m k → gsF n T P D f S t m = 1 → nrC P D f k m = false)
  | 0, _ => by
    have e : ∀ k, k < n → gsF n T P D f S 0 k = 2 := fun k hk => if_pos (by omega)
    exact ⟨fun k hk => Or.inr (Or.inr (e k hk)), c2_all n e, fun m k hm hk _ h => absurd (e k hk) h, fun k hk h => absurd (e k hk) h⟩
  | t + 1, ht => by
    obtain ⟨i1, i2, i3, i4⟩ := gsF_iv hn hT t (by omega)
    have e0 : gsF n T P D f S (t + 1) = gsS n T P D f (gsF n T P D f S t) := rfl
    rw [e0]
    generalize gsF n T P D f S t = R at i1 i2 i3 i4
    obtain ⟨k2, k3, k4⟩ := c2_ex (S := R) n (by omega)
    obtain ⟨b, b1, b2, b3, b4, b5⟩ := (brF_m (S := R) hT n (Nat.le_refl _)).resolve_left (fun c => c.2.2 k2 k3 k4)
    unfold gsS
    rw [b3]
    dsimp only
    rw [nI_clamp (by omega)]
    -- what is asked comes before b
    have hbf : ∀ m, m < n → R m ≠ 2 → bef (fun k => (T k).toInt) m b := fun m hm hr => by
      by_cases q : bef (fun k => (T k).toInt) b m
      · exact absurd b2 (i3 b m b1 hm q hr)
      · have : ¬ m = b := fun e => hr (by rw [e]; exact b2)
        unfold bef at q ⊢
        dsimp only at q ⊢
        omega
    have hnb : ∀ m, m < n → bef (fun k => (T k).toInt) m b → R m ≠ 2 := fun m hm q hr => by
      have g1 := b4 m hm hr
      unfold bef at q
      dsimp only at q
      by_cases e : m < b
      · have := b5 m e hr; omega
      · omega
    have hv : (if exB (nearS R P D f b) n 0 = true then (0 : Int64) else 1) = 0 ∨ (if exB (nearS R P D f b) n 0 = true then (0 : Int64) else 1) = 1 := by
      split
      · exact Or.inl rfl
      · exact Or.inr rfl
    have h1 : (if exB (nearS R P D f b) n 0 = true then (0 : Int64) else 1) = 1 ↔ ∀ m, m < n → bef (fun k => (T k).toInt) m b → R m = 1 → nrC P D f b m = false := by
      constructor
      · intro q m hm hbm hr
        by_cases c : exB (nearS R P D f b) n 0 = true
        · rw [if_pos c] at q; exact absurd q (by decide)
        · cases e : nrC P D f b m
          · rfl
          · exfalso
            apply c
            rw [exB_t]
            unfold nrC at e
            rw [Bool.and_eq_true, decide_eq_true_eq, decide_eq_true_eq] at e
            exact ⟨m, Nat.zero_le _, by omega, decide_eq_true ⟨hr, e.1, e.2⟩⟩
      · intro q
        rw [if_neg]
        intro c
        obtain ⟨j, -, j1, j2⟩ := (exB_t _ _).mp c
        obtain ⟨a1, a2, a3⟩ := of_decide_eq_true j2
        have := q j (by omega) (hbf j (by omega) (by rw [a1]; decide)) a1
        unfold nrC at this
        rw [decide_eq_true a2, decide_eq_true a3] at this
        cases this
    generalize (if exB (nearS R P D f b) n 0 = true then (0 : Int64) else 1) = v at hv h1
    have hv2 : v ≠ 2 := by rcases hv with e | e <;> (rw [e]; decide)
    refine ⟨fun k hk => ?_, ?_, fun m k hm hk q hr => ?_, fun k hk hr => ?_⟩
    · by_cases e : k = b
      · rw [e, up_s]
        rcases hv with e | e
        · exact Or.inl e
        · exact Or.inr (Or.inl e)
      · rw [up_n e]; exact i1 k hk
    · rw [c2_up hv2 b2, if_pos b1]; omega
    · by_cases e2 : m = b
      · rw [e2, up_s]; exact hv2
      · rw [up_n e2]
        by_cases e : k = b
        · rw [e] at q
          exact hnb m hm q
        · rw [up_n e] at hr
          exact i3 m k hm hk q hr
    · by_cases e : k = b
      · rw [e, up_s, h1]
        constructor
        · intro q m hm hbm hr
          have : ¬ m = b := fun u => by rw [u] at hbm; unfold bef at hbm; omega
          rw [up_n this] at hr
          exact q m hm hbm hr
        · intro q m hm hbm hr
          have : ¬ m = b := fun u => by rw [u] at hbm; unfold bef at hbm; omega
          exact q m hm hbm (by rw [up_n this]; exact hr)
      · rw [up_n e] at hr ⊢
        rw [i4 k hk hr]
        constructor
        · intro q m hm hbm hr2
          have : ¬ m = b := fun u => i3 m k hm hk hbm hr (by rw [u]; exact b2)
          rw [up_n this] at hr2
          exact q m hm hbm hr2
        · intro q m hm hbm hr2
          have : ¬ m = b := fun u => i3 m k hm hk hbm hr (by rw [u]; exact b2)
          exact q m hm hbm (by rw [up_n this]; exact hr2)
theorem gsF_sp (hn : n ≤ 768) (hT : ∀ k, k < n → 0 < T k) : (∀ k, k < n → gsF n T P D f S n k = 0 ∨ gsF n T P D f S n k = 1) ∧ isSp n (fun k => (T k).toInt) (nrC P D f) (fun k => decide (gsF n T P D f S n k = 1)) := by
  obtain ⟨i1, i2, i3, i4⟩ := gsF_iv (P := P) (D := D) (f := f) (S := S) hn hT n (Nat.le_refl _)
  have h2 : ∀ k, k < n → gsF n T P D f S n k ≠ 2 := fun k hk e => by have := c2_pos e n hk; omega
  refine ⟨fun k hk => ?_, fun k hk => ?_⟩
  · rcases i1 k hk with h | h | h
    · exact Or.inl h
    · exact Or.inr h
    · exact absurd h (h2 k hk)
  · rw [decide_eq_true_eq, i4 k hk (h2 k hk)]
    constructor
    · intro q m hm hb hr
      exact q m hm hb (of_decide_eq_true hr)
    · intro q m hm hb hr
      exact q m hm hb (decide_eq_true hr)
end
