/-! BITS of a long -/
theorem bit_bv : ∀ k, k < 64 → (bitL k).toBitVec = BitVec.twoPow 64 k := by decide +kernel
theorem bt_eq {a : Int64} {k : Nat} (hk : k < 64) : btL a k = a.toBitVec.getLsbD k := by
  have key : (a &&& bitL k = 0) ↔ a.toBitVec.getLsbD k = false := by
    rw [← Int64.toBitVec_inj, Int64.toBitVec_and, bit_bv k hk, BitVec.and_twoPow]
    by_cases h : a.toBitVec.getLsbD k = true
    · rw [if_pos h, h]
      constructor
      · intro e
        have := congrArg (fun x => BitVec.getLsbD x k) e
        simp [hk] at this
      · intro e; cases e
    · rw [if_neg h]
      rw [Bool.not_eq_true] at h
      simp [h]
  unfold btL
  cases h : a.toBitVec.getLsbD k
  · exact decide_eq_false (not_not_intro (key.mpr h))
  · exact decide_eq_true (fun e => by rw [key.mp e] at h; cases h)
theorem bt_or {a b : Int64} {k : Nat} (hk : k < 64) : btL (a ||| b) k = (btL a k || btL b k) := by rw [bt_eq hk, bt_eq hk, bt_eq hk]; simp
theorem bt_and {a b : Int64} {k : Nat} (hk : k < 64) : btL (a &&& b) k = (btL a k && btL b k) := by rw [bt_eq hk, bt_eq hk, bt_eq hk]; simp
theorem bt_m1 {k : Nat} (hk : k < 64) : btL (-1) k = true := by rw [bt_eq hk, show (-1 : Int64).toBitVec = BitVec.allOnes 64 from by decide, BitVec.getLsbD_allOnes]; simp [hk]
theorem bt_xor {a b : Int64} {k : Nat} (hk : k < 64) : btL (a ^^^ b) k = (btL a k ^^ btL b k) := by rw [bt_eq hk, bt_eq hk, bt_eq hk]; simp
theorem bt_not {a : Int64} {k : Nat} (hk : k < 64) : btL (a ^^^ -1) k = !btL a k := by rw [bt_xor hk, bt_m1 hk]; simp
theorem bt_0 {k : Nat} (hk : k < 64) : btL 0 k = false := by rw [bt_eq hk]; simp
theorem bt_bit {k m : Nat} (hk : k < 64) (hm : m < 64) : btL (bitL m) k = decide (k = m) := by
  rw [bt_eq hk, bit_bv m hm, BitVec.getLsbD_twoPow]
  simp [hm, eq_comm]
theorem bt_ext {a b : Int64} (h : ∀ k, k < 64 → btL a k = btL b k) : a = b := by
  rw [← Int64.toBitVec_inj]
  apply BitVec.eq_of_getLsbD_eq
  intro k hk
  rw [← bt_eq hk, ← bt_eq hk, h k hk]
theorem bt_ne {a : Int64} (h : a ≠ 0) : ∃ k, k < 64 ∧ btL a k = true := by
  apply Classical.byContradiction
  intro hn
  apply h
  apply bt_ext
  intro k hk
  rw [bt_0 hk]
  cases e : btL a k
  · rfl
  · exact absurd ⟨k, hk, e⟩ hn
theorem low_some {p : Nat → Bool} : ∀ {d k m : Nat}, low p d k = some m → p m = true ∧ k ≤ m ∧ m < k + d ∧ ∀ j, k ≤ j → j < m → p j = false := by
  intro d
  induction d with
  | zero => intro k m h; cases h
  | succ d ih =>
    intro k m h
    rw [low] at h
    by_cases hp : p k = true
    · rw [if_pos hp] at h
      cases h
      exact ⟨hp, Nat.le_refl _, by omega, fun j h1 h2 => by omega⟩
    · rw [if_neg hp] at h
      obtain ⟨h1, h2, h3, h4⟩ := ih h
      refine ⟨h1, by omega, by omega, fun j h5 h6 => ?_⟩
      by_cases e : j = k
      · subst e; simpa using hp
      · exact h4 j (by omega) h6
theorem low_none {p : Nat → Bool} : ∀ {d k : Nat}, low p d k = none → ∀ j, k ≤ j → j < k + d → p j = false := by
  intro d
  induction d with
  | zero => intro k _ j h1 h2; omega
  | succ d ih =>
    intro k h j h1 h2
    rw [low] at h
    by_cases hp : p k = true
    · rw [if_pos hp] at h
      cases h
    · rw [if_neg hp] at h
      by_cases e : j = k
      · subst e; simpa using hp
      · exact ih h j (by omega) (by omega)
theorem low_ne {a : Int64} (h : a ≠ 0) : ∃ k, low (btL a) 64 0 = some k ∧ k < 64 := by
  cases e : low (btL a) 64 0 with
  | some k => exact ⟨k, rfl, by have := (low_some e).2.2.1; omega⟩
  | none =>
    obtain ⟨k, h1, h2⟩ := bt_ne h
    rw [low_none e k (by omega) (by omega)] at h2
    cases h2
theorem it_fix {α : Type} {s : α} {f : Nat → α → α} {t : Nat} (h : ∀ k, f k (it t s f) = it t s f) : ∀ d, it (t + d) s f = it t s f := by
  intro d
  induction d with
  | zero => rfl
  | succ d ih => rw [Nat.add_succ, it_s, ih, h]
/-- the bits of an orL -/
theorem bt_orL {c : Nat} {p : Nat → Bool} (hc : c ≤ 64) {k : Nat} (hk : k < 64) : btL (orL c p) k = (decide (k < c) && p k) := by
  induction c with
  | zero => rw [orL, it_0, bt_0 hk]; simp
  | succ c ih =>
    have ih := ih (by omega)
    rw [orL] at ih ⊢
    rw [it_s]
    by_cases hp : p c = true
    · rw [if_pos hp, bt_or hk, ih, bt_bit hk (by omega)]
      by_cases e : k = c
      · subst e; simp [hp]
      · simp [e, show (k < c + 1) = (k < c) from by apply propext; omega]
    · rw [if_neg hp, ih]
      by_cases e : k = c
      · subst e; simp [hp]
      · simp [show (k < c + 1) = (k < c) from by apply propext; omega]
