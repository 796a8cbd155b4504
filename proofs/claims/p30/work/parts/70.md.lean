section
variable {g : hf_G} {I : hf_I} {J : hf_J} {c k m n : Nat} {a b d u v w : Int64} {i j x y : Int32}
theorem I_nle {a b : Int32} (h : a < b) : ¬ b ≤ a := by rw [Int32.le_iff_toInt_le]; rw [Int32.lt_iff_toInt_lt] at h; omega
theorem I_le {a b : Int32} (h : ¬ a < b) : b ≤ a := by rw [Int32.le_iff_toInt_le]; rw [Int32.lt_iff_toInt_lt] at h; omega
end
