section
variable {c a b l : Nat} {I : hf_I} {J : hf_J} {R : R4} {X Y : Nat → Nat}
theorem wy_sq (x y : Int) : wyZ x y * wyZ x y = wyZ y x * wyZ y x := by
  have h : wyZ x y = wyZ y x ∨ wyZ x y = -wyZ y x := by unfold wyZ; omega
  rcases h with h | h
  · rw [h]
  · rw [h, Int.neg_mul_neg]
theorem lk_sym : lkZ X Y l a b = lkZ X Y l b a := by
  unfold lkZ sqZ
  rw [wy_sq (X a) (X b), wy_sq (Y a) (Y b)]
theorem nr_z (h : RWc J c R) (hR : R4ok c R) (hl : l ≤ 2000) (ha : a < c) (hb : b < c) : nrL (J 4) (J 6) (lZ l) a b = lkZ R.1 R.2.1 l a b := by
  obtain ⟨w1, w2⟩ := way_c h hR ha hb
  obtain ⟨q, h1, h2⟩ := qZ_n (X := R.1) (Y := R.2.1) (a := a) (b := b)
  unfold nrL lkZ
  rw [w1, w2, sqL_z, lZ_mul]
  have h3 := mul_rng (w := l) (v := l) (a := 2000) (b := 2000) (by omega) (by omega)
  unfold qZ at h1
  rw [h1]
  exact decide_eq_decide.mpr (Iff.of_eq (lZ_le (lRs (by omega) (by omega)) (lRs (by omega) (by omega))))
end
