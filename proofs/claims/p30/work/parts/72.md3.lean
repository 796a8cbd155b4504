section
variable {g : hf_G} {I : hf_I} {J : hf_J} {a b c k m n s p q : Nat} {u v w : Int64} {i j x y : Int32}
def pbI (gg sf p x y : Int32) : Int32 := gg * p / (sqI x y + sf * sf)
end
