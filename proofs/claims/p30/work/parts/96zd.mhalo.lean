section
variable {σ : Sg} {c l n a b : Nat} {M : Nat → Nat} {L L2 : Nat → Nat → Bool} {I : hf_I} {J : hf_J} {g : hf_G} {R : Nat → Option Nat}
theorem mkd_cong (hL : ∀ a b, a < c → b < c → L a b = L2 a b) (h : mkd L c M) : mkd L2 c M :=
  ⟨fun k hk => ⟨(h.1 k hk).1, fun S hS hc => (h.1 k hk).2 S hS fun x y hx hy hxy hl => hc x y hx hy hxy (by rw [← hL x y hx hy]; exact hl)⟩, fun a b ha hb hab => by rw [← hL a b ha hb]; exact h.2 a b ha hb hab⟩
/-- links of now -/
def lkN (σ : Sg) : Nat → Nat → Bool := lkZ (sX σ 12) (sY σ 12) (sq σ 5)
theorem sok_5 (hσ : SOK σ) : 1 ≤ sq σ 5 ∧ sq σ 5 ≤ 2000 := sok_r hσ (i := 5) (by decide)
theorem sok_6 (hσ : SOK σ) : 1 ≤ sq σ 6 ∧ sq σ 6 ≤ 64 := sok_r hσ (i := 6) (by decide)
end
