/-- the places of now are told anew, up to t -/
def nwR {α : Type} (R : Nat → α) (t : Nat) (f : Nat → α) : Nat → α := fun j => if 768 ≤ j ∧ j < 768 + t then f (j - 768) else R j
section
variable {α : Type} {R f : Nat → α} {t : Nat} {v : α}
end
section
variable {g : hf_G} {I : hf_I} {J : hf_J} {a b c k m n s p q : Nat} {u v w : Int64} {i j x y : Int32}
end
