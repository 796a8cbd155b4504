theorem it_sh {α : Type} {f : α → α} : ∀ (n : Nat) (s : α), it (n + 1) s (fun _ x => f x) = it n (f s) (fun _ x => f x) := by
  intro n
  induction n with
  | zero => intro s; rfl
  | succ n ih => intro s; rw [it_s, ih s, it_s]
section
variable {g : hf_G} {I I2 K : hf_I} {J J2 : hf_J} {S a b c d k l m n s p q P t cl : Nat} {u v w q64 : Int64} {i j x y : Int32} {cn : Nat → Nat} {M : Nat → Nat} {F : Nat → Int32}
end
