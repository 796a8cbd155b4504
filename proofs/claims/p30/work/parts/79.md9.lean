def smN (f : Nat → Nat) (n : Nat) : Nat := it n 0 fun k s => s + f k
theorem smN_s {f : Nat → Nat} {n : Nat} : smN f (n + 1) = smN f n + f n := rfl
theorem smN_out {f : Nat → Nat} {n i v : Nat} (h : n ≤ i) : smN (up f i v) n = smN f n := by
  induction n with
  | zero => rfl
  | succ n ih => rw [smN_s, smN_s, ih (by omega), up_n (by omega)]
theorem smN_up {f : Nat → Nat} {n i v : Nat} (h : i < n) : smN (up f i v) n + f i = smN f n + v := by
  induction n with
  | zero => omega
  | succ n ih =>
    rw [smN_s, smN_s]
    by_cases e : n = i
    · subst e
      rw [smN_out (Nat.le_refl _), up_s]
      omega
    · rw [up_n e]
      have := ih (by omega)
      omega
section
variable {g : hf_G} {I : hf_I} {J : hf_J} {a b c k m n s p q cl : Nat} {u v w : Int64} {i j x y : Int32} {M : Nat → Nat} {O F : Nat → Int32}
/-- what hangs together by links -/
def cnx (L : Nat → Nat → Bool) (c a b : Nat) : Prop := ∀ S : Nat → Prop, S a → (∀ x y, x < c → y < c → S x → L x y = true → S y) → S b
theorem cnx_r {L : Nat → Nat → Bool} : cnx L c a a := fun S h _ => h
/-- marks as they should be: each the lowest that hangs together with it -/
def mkd (L : Nat → Nat → Bool) (c : Nat) (M : Nat → Nat) : Prop := (∀ k, k < c → M k ≤ k ∧ cnx L c k (M k)) ∧ ∀ a b, a < c → b < c → M b < M a → L a b = false
end
