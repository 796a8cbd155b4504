def ctB (p : Nat → Bool) (n : Nat) : Nat := it n 0 fun k s => if p k = true then s + 1 else s
theorem ctB_s {p : Nat → Bool} {n : Nat} : ctB p (n + 1) = if p n = true then ctB p n + 1 else ctB p n := rfl
theorem ctB_le {p : Nat → Bool} : ∀ n, ctB p n ≤ n := by
  intro n
  induction n with
  | zero => exact Nat.le_refl _
  | succ n ih => rw [ctB_s]; split <;> omega
theorem ctB_pos {p : Nat → Bool} {k : Nat} (hp : p k = true) : ∀ n, k < n → 0 < ctB p n := by
  intro n
  induction n with
  | zero => intro h; omega
  | succ n ih =>
    intro h
    rw [ctB_s]
    by_cases e : k = n
    · subst e; rw [if_pos hp]; omega
    · have := ih (by omega)
      split <;> omega
section
variable {g : hf_G} {I I2 : hf_I} {J : hf_J} {a b c k l m n s p q cl P : Nat} {u v w : Int64} {i j x y : Int32} {S B F H : Nat → Int32} {cn : Nat → Nat} {Q : Q4} {K : hf_I} {W : V5}
end
