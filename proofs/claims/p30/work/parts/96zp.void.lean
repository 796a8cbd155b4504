section
variable {v e f l : Int64} {x y k n c t m a b : Nat} {E : Nat → Bool} {M : Nat → Nat} {O : Nat → Int32} {vc : Nat → Nat} {σ : Sg} {I : hf_I} {J : hf_J} {g : hf_G} {p : Int64 × Int32}
def vcS (σ : Sg) (m : Nat) : Nat := sX σ 12 m / 512 * 8 + sY σ 12 m / 512
end
