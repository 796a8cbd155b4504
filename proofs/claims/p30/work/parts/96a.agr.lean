def sgq (σ : Sg) (f : Nat → Nat) : Sg := (f, σ.2)
section
variable {σ : Sg} {f : Nat → Nat} {g : hf_G} {I I2 : hf_I} {J J2 : hf_J} {s k p a b c d m n v : Nat} {i j x y : Int32}
theorem i_rng {lo hi : Nat} (hh : hi < 2147483648) (h : nI lo ≤ i ∧ i ≤ nI hi) (hl : lo < 2147483648) : ∃ a, lo ≤ a ∧ a ≤ hi ∧ i = nI a := by
  obtain ⟨h1, h2⟩ := h
  have h0 : ¬ i < 0 := by
    intro c
    rw [Int32.lt_iff_toInt_lt] at c
    rw [Int32.le_iff_toInt_le, nI_toInt hl] at h1
    have : (0 : Int32).toInt = 0 := rfl
    omega
  obtain ⟨a, a1, rfl⟩ := nI_of h0
  rw [z_ii hl a1] at h1
  rw [z_ii a1 hh] at h2
  exact ⟨a, h1, h2, rfl⟩
theorem nxS_q (h1 : f 1 = sq σ 1) (h15 : f 15 = sq σ 15) : nxS (sgq σ f) = nxS σ := by
  have e1 : sN (sgq σ f) = sN σ := h1
  have e2 : sP (sgq σ f) = sP σ := h15
  unfold nxS
  rw [e1, e2]
  rfl
theorem glS_q (h1 : f 1 = sq σ 1) (h15 : f 15 = sq σ 15) (h7 : f 7 = sq σ 7) (h8 : f 8 = sq σ 8) (h9 : f 9 = sq σ 9) : glS (sgq σ f) = glS σ := by
  have e1 : sN (sgq σ f) = sN σ := h1
  have e2 : sP (sgq σ f) = sP σ := h15
  have e7 : sq (sgq σ f) 7 = sq σ 7 := h7
  have e8 : sq (sgq σ f) 8 = sq σ 8 := h8
  have e9 : sq (sgq σ f) 9 = sq σ 9 := h9
  unfold glS
  rw [nxS_q h1 h15, e1, e2, e7, e8, e9]
  rfl
theorem rng_up (h : Rng f) (hk0 : ¬ k = 0) (hk1 : ¬ k = 1) (hv : loT k ≤ v ∧ v ≤ hiT k) : Rng (up f k v) := by
  refine ⟨fun i hi => ?_, ?_⟩
  · by_cases e : i = k
    · subst e; rw [up_s]; exact hv
    · rw [up_n e]; exact h.1 i hi
  · rw [up_n (fun e => hk1 e.symm), up_n (fun e => hk0 e.symm)]
    exact h.2
theorem sok_q (h : SOK σ) (hf : Rng f) (h1 : f 1 = sq σ 1) (h15 : f 15 = sq σ 15) : SOK (sgq σ f) := by
  have e1 : sN (sgq σ f) = sN σ := h1
  have e2 : sP (sgq σ f) = sP σ := h15
  refine ⟨hf, ?_, ?_⟩
  · unfold sl
    rw [e1, e2]
    exact h.2.1
  · rw [e1, e2]
    exact h.2.2
theorem RC_q (hP : sP σ ≤ 12) (h : RC σ I J) (h1 : f 1 = sq σ 1) (h15 : f 15 = sq σ 15) (h7 : f 7 = sq σ 7) (h8 : f 8 = sq σ 8) (h9 : f 9 = sq σ 9) (hq : RCq (sgq σ f) I2 J2) (hI : ∀ a, 2 ≤ a → a ≠ 13 → a < 238 → I2 a = I a) (hJ : ∀ a, 2 ≤ a → a ≠ 13 → a < 238 → J2 a = J a) : RC (sgq σ f) I2 J2 := by
  have e1 : sN (sgq σ f) = sN σ := h1
  have e2 : sP (sgq σ f) = sP σ := h15
  refine ⟨hq, fun s hs => ?_, fun p hp => ?_⟩
  · have hs2 : sl σ s := by unfold sl at hs ⊢; rw [e2] at hs; exact hs
    have hr := gA_rng hP hs2
    have hg := h.2.1 s hs2
    unfold RCg at hg ⊢
    rw [hI (gA s) (by omega) (by omega) (by omega), hJ (gA s + 2) (by omega) (by omega) (by omega), hJ (gA s + 4) (by omega) (by omega) (by omega), hJ (gA s + 6) (by omega) (by omega) (by omega), hJ (gA s + 8) (by omega) (by omega) (by omega), e1]
    exact hg
  · rw [e2] at hp
    have hg := h.2.2 p hp
    unfold RCp at hg ⊢
    rw [hI (34 + 17 * p + 1) (by omega) (by omega) (by omega), hJ (34 + 17 * p + 1) (by omega) (by omega) (by omega), hJ (34 + 17 * p + 12) (by omega) (by omega) (by omega), hJ (34 + 17 * p + 14) (by omega) (by omega) (by omega), hJ (34 + 17 * p + 16) (by omega) (by omega) (by omega), e1, nxS_q h1 h15, glS_q h1 h15 h7 h8 h9]
    exact hg
end
