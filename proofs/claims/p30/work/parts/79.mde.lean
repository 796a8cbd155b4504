abbrev Q4 : Type := (Nat → Int32) × (Nat → Int32) × (Nat → Int32) × (Nat → Int32)
section
variable {I : hf_I} {S B F A C D E : Nat → Int32} {Q : Q4} {a k : Nat} {v : Int32}
end
section
variable {g : hf_G} {I : hf_I} {J : hf_J} {a b c k l m n s p q cl P : Nat} {u v w : Int64} {i j x y : Int32} {S B F H K : Nat → Int32} {cn : Nat → Nat} {Q : Q4}
end
