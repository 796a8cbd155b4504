section
variable {g : hf_G} {I I2 : hf_I} {J J2 : hf_J} {S a b c d k l m n s p q P t cl : Nat} {u v w q64 : Int64} {i j x y : Int32} {cn : Nat → Nat} {M : Nat → Nat}
theorem nI_m1n (h : p < 1000) : ¬ nI p = -1 := by rw [nI_iZ, show (-1 : Int32) = iZ (-1) from rfl, iZ_eq (iRs (by omega) (by omega)) (iRs (by omega) (by omega))]; omega
/-- where a picture lies -/
def slN (i : Int32) (s : Nat) : Prop := i = -1 ∧ s = 12 ∨ i = nI s ∧ s < 12
end
