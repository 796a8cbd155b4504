/-- what is seen, told anew -/
abbrev V5 : Type := (Nat → Int32) × (Nat → Int32) × (Nat → Int32) × (Nat → Int32) × (Nat → Int32)
section
variable {K : hf_I} {V F R P H F2 : Nat → Int32} {W : V5} {a k m n : Nat} {v : Int32}
end
section
variable {g : hf_G} {I : hf_I} {J : hf_J} {a b c k l m n s p q cl P : Nat} {u v w : Int64} {i j x y : Int32} {S B F H : Nat → Int32} {cn : Nat → Nat} {Q : Q4} {K : hf_I} {W : V5} {T : Nat → Nat → Int32 → Int64}
end
