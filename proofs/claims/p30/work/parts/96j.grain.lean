section
variable {σ : Sg} {R : R4} {g : hf_G} {I I2 : hf_I} {J J2 : hf_J} {s k c a b m p : Nat} {i j x y : Int32}
theorem RC_P (h : RC σ I J) : I 13 3 = nI (sP σ) := h.1.2.2.2.2.2.2.2.2.2.2.2.2.2.2.2.1
theorem i_in (hc : c ≤ 768) (hk : k < c) : 0 ≤ nI k ∧ nI k < nI c := ⟨nI_pos' (by omega), nI_lt hk (by omega)⟩
end
