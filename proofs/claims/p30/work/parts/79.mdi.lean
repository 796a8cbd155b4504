/-- one comes ahead of another: brighter, or as bright and earlier -/
abbrev bef (t : Nat → Int) (m k : Nat) : Prop := t k < t m ∨ (t m = t k ∧ m < k)
def isSp (n : Nat) (t : Nat → Int) (nr : Nat → Nat → Bool) (H : Nat → Bool) : Prop := ∀ k, k < n → (H k = true ↔ ∀ m, m < n → bef t m k → H m = true → nr k m = false)
theorem ctB_lt {p q : Nat → Bool} {m : Nat} (h : ∀ x, p x = true → q x = true) (h1 : p m = false) (h2 : q m = true) : ∀ N, ctB p N + (if m < N then 1 else 0) ≤ ctB q N := by
  intro N
  induction N with
  | zero => exact Nat.le_refl _
  | succ N ih =>
    rw [ctB_s, ctB_s]
    by_cases e : N = m
    · subst e
      rw [if_neg (by rw [h1]; decide), if_pos h2, if_pos (Nat.lt_succ_self _)]
      rw [if_neg (Nat.lt_irrefl _)] at ih
      omega
    · have e2 : (m < N + 1) = (m < N) := by apply propext; omega
      simp only [e2]
      cases hp : p N
      · simp only [Bool.false_eq_true, if_false]
        have : ctB q N ≤ if q N = true then ctB q N + 1 else ctB q N := by split <;> omega
        omega
      · rw [h N hp]
        simp only [if_true]
        omega
theorem isSp_one {n : Nat} {t : Nat → Int} {nr : Nat → Nat → Bool} {H H2 : Nat → Bool} (h : isSp n t nr H) (h2 : isSp n t nr H2) : ∀ k, k < n → H k = H2 k := by
  have key : ∀ d k, k < n → ctB (fun m => decide (bef t m k)) n < d → H k = H2 k := by
    intro d
    induction d with
    | zero => intro k _ hd; omega
    | succ d ih =>
      intro k hk hd
      have e : ∀ m, m < n → bef t m k → H m = H2 m := by
        intro m hm hb
        refine ih m hm ?_
        have hsub := ctB_lt (p := fun x => decide (bef t x m)) (q := fun x => decide (bef t x k)) (m := m) (fun x hx => by
          simp only [decide_eq_true_eq] at hx ⊢
          omega) (decide_eq_false (by omega)) (decide_eq_true hb)
        have := hsub n
        rw [if_pos hm] at this
        omega
      have a1 := h k hk
      have a2 := h2 k hk
      have a3 : (∀ m, m < n → bef t m k → H m = true → nr k m = false) ↔ (∀ m, m < n → bef t m k → H2 m = true → nr k m = false) := by
        constructor
        · intro q m hm hb hx
          exact q m hm hb (by rw [e m hm hb]; exact hx)
        · intro q m hm hb hx
          exact q m hm hb (by rw [← e m hm hb]; exact hx)
      have a4 := a1.trans (a3.trans a2.symm)
      cases x : H k <;> cases y : H2 k
      · rfl
      · rw [x, y] at a4; exact absurd (a4.mpr rfl) (by decide)
      · rw [x, y] at a4; exact absurd (a4.mp rfl) (by decide)
      · rfl
  intro k hk
  exact key _ k hk (Nat.lt_succ_self _)
/-- one pass over all: those of one height get their spectra, the next height is found -/
def hb (H : Nat → Int32) (k : Nat) : Bool := decide (¬ H k = 0)
section
variable {g : hf_G} {I I2 : hf_I} {J : hf_J} {a b c k l m n s p q cl P : Nat} {u v w : Int64} {i j x y : Int32} {S B F H : Nat → Int32} {cn : Nat → Nat} {Q : Q4} {K : hf_I} {W : V5}
end
