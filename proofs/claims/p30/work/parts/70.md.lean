section
variable {g : hf_G} {I : hf_I} {J : hf_J} {c k m n : Nat} {a b d u v w : Int64} {i j x y : Int32}
def dwL (a b : Int64) : Int64 := if a < a / b * b then a / b - 1 else a / b
theorem I_nle {a b : Int32} (h : a < b) : ¬ b ≤ a := by rw [Int32.le_iff_toInt_le]; rw [Int32.lt_iff_toInt_lt] at h; omega
theorem I_le {a b : Int32} (h : ¬ a < b) : b ≤ a := by rw [Int32.le_iff_toInt_le]; rw [Int32.lt_iff_toInt_lt] at h; omega
def sqI (x y : Int32) : Int32 := x * x + y * y
def dgN (k : Nat) : Nat := 4096 / 2 ^ k
def rtN (q : Int32) (t : Nat) : Nat := it t 0 fun k f => if nI (f + dgN k) ≤ q / nI (f + dgN k) then f + dgN k else f
theorem dgN_le (k : Nat) : dgN k ≤ 4096 := Nat.div_le_self _ _
theorem dgN_p : ∀ k, k < 13 → 0 < dgN k := by decide
def ltI (i j : Int32) : Int32 := 2048 * (2 * i + 1) / j
end
