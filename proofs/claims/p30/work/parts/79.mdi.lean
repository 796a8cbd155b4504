/-- one pass over all: those of one height get their spectra, the next height is found -/
def hb (H : Nat → Int32) (k : Nat) : Bool := decide (¬ H k = 0)
section
variable {g : hf_G} {I I2 : hf_I} {J : hf_J} {a b c k l m n s p q cl P : Nat} {u v w : Int64} {i j x y : Int32} {S B F H : Nat → Int32} {cn : Nat → Nat} {Q : Q4} {K : hf_I} {W : V5}
end
