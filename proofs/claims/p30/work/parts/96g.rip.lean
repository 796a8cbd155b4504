section
variable {σ : Sg} {f : Nat → Nat} {R : R4} {g : hf_G} {I I2 : hf_I} {J J2 : hf_J} {s k p c n t : Nat} {a b am ph z : Int} {i j x y kx ky ki kj : Int32} {v : Int64}
theorem zm3 : iZ (-3) = -3 ∧ lZ (-3) = -3 ∧ iZ (-1000) = -1000 ∧ lZ (-1000) = -1000 := by decide +kernel
theorem z3_3 (h : -3 ≤ i ∧ i ≤ 3) : ∃ a : Int, -3 ≤ a ∧ a ≤ 3 ∧ i = iZ a := i3_z (b := 3) ⟨by decide, by decide⟩ (by rw [zm3.1]; exact h)
theorem z3_1000 (h : -1000 ≤ i ∧ i ≤ 1000) : ∃ a : Int, -1000 ≤ a ∧ a ≤ 1000 ∧ i = iZ a := i3_z (b := 1000) ⟨by decide, by decide⟩ (by rw [zm3.2.2.1]; exact h)
theorem z3_15 (h : 0 ≤ i ∧ i ≤ 15) : ∃ a : Int, 0 ≤ a ∧ a ≤ 15 ∧ i = iZ a := by
  obtain ⟨n, n1, n2, rfl⟩ := i_rng (lo := 0) (hi := 15) (by decide) h (by decide)
  exact ⟨n, by omega, by omega, nI_iZ n⟩
theorem RCq_J (h : RCq σ I J) (hJ : ∀ a, a = 0 ∨ a = 13 ∨ a = 238 ∨ a = 257 → J2 a = J a) : RCq (sgR σ (sq σ) R) I J2 := by
  unfold RCq at h ⊢
  rw [hJ 238 (by omega), hJ 0 (by omega), hJ 13 (by omega), hJ 257 (by omega)]
  exact h
theorem RC_R (hσ : SOK σ) (h : RC σ I J) (hw : RWc J2 (sN σ) R) (hJ : ∀ a, a = 0 ∨ a = 13 ∨ a = 238 ∨ a = 257 → J2 a = J a) (hJ2 : ∀ a, 34 ≤ a → a < 238 → J2 a = J a) : RC (sgR σ (sq σ) R) I J2 := RC_n (sok_P hσ) h rfl rfl rfl rfl rfl (RCq_J h.1 hJ) (RC_sg hw (RC_g h).1) (fun _ _ _ => rfl) hJ2
theorem sok_s (hσ : SOK σ) : 2 ≤ sq σ 0 ∧ sq σ 0 ≤ 8 := sok_r hσ (i := 0) (by decide)
end
