/-- the state with another now -/
def sgN (σ : Sg) (f : Nat → Nat) (X Y : Nat → Nat) (U W : Nat → Int64) : Sg := (f, (fun s k => if s = 12 then X k else sX σ s k), (fun s k => if s = 12 then Y k else sY σ s k), (fun s k => if s = 12 then U k else sU σ s k), (fun s k => if s = 12 then W k else sW σ s k), σ.2.2.2.2.2)
section
variable {σ : Sg} {f X Y : Nat → Nat} {U W : Nat → Int64} {g : hf_G} {I I2 : hf_I} {J J2 : hf_J} {s k p a b c d m n v : Nat} {i j x y : Int32}
theorem nxS_N (h1 : f 1 = sq σ 1) (h15 : f 15 = sq σ 15) : nxS (sgN σ f X Y U W) = nxS σ := by
  have e1 : sN (sgN σ f X Y U W) = sN σ := h1
  have e2 : sP (sgN σ f X Y U W) = sP σ := h15
  unfold nxS
  rw [e1, e2]
  rfl
theorem glS_N (h1 : f 1 = sq σ 1) (h15 : f 15 = sq σ 15) (h7 : f 7 = sq σ 7) (h8 : f 8 = sq σ 8) (h9 : f 9 = sq σ 9) : glS (sgN σ f X Y U W) = glS σ := by
  have e1 : sN (sgN σ f X Y U W) = sN σ := h1
  have e2 : sP (sgN σ f X Y U W) = sP σ := h15
  have e7 : sq (sgN σ f X Y U W) 7 = sq σ 7 := h7
  have e8 : sq (sgN σ f X Y U W) 8 = sq σ 8 := h8
  have e9 : sq (sgN σ f X Y U W) 9 = sq σ 9 := h9
  unfold glS
  rw [nxS_N h1 h15, e1, e2, e7, e8, e9]
  rfl
theorem sX_N (hs : s < 12) : sX (sgN σ f X Y U W) s = sX σ s := by funext k; exact if_neg (by omega)
theorem sY_N (hs : s < 12) : sY (sgN σ f X Y U W) s = sY σ s := by funext k; exact if_neg (by omega)
theorem sU_N (hs : s < 12) : sU (sgN σ f X Y U W) s = sU σ s := by funext k; exact if_neg (by omega)
theorem sW_N (hs : s < 12) : sW (sgN σ f X Y U W) s = sW σ s := by funext k; exact if_neg (by omega)
theorem sX_12 : sX (sgN σ f X Y U W) 12 = X := rfl
theorem sY_12 : sY (sgN σ f X Y U W) 12 = Y := rfl
theorem sok_n (h : SOK σ) (hf : Rng f) (h1 : f 1 = sq σ 1) (h15 : f 15 = sq σ 15) (hX : ∀ k, k < sN σ → X k < 4096 ∧ Y k < 4096) : SOK (sgN σ f X Y U W) := by
  have e1 : sN (sgN σ f X Y U W) = sN σ := h1
  have e2 : sP (sgN σ f X Y U W) = sP σ := h15
  have hP := sok_P h
  refine ⟨hf, fun s k hs hk => ?_, fun p hp => ?_⟩
  · unfold sl at hs
    rw [e2] at hs
    rw [e1] at hk
    by_cases e : s = 12
    · subst e; rw [sX_12, sY_12]; exact hX k hk
    · rw [sX_N (by omega), sY_N (by omega)]; exact h.2.1 s k hs hk
  · rw [e2] at hp
    have := h.2.2 p hp
    rw [sX_N (by omega), sY_N (by omega), e1]
    exact this
/-- a universe begun: no pictures -/
theorem sok_b (hf : Rng f) (h15 : f 15 = 0) (hX : ∀ k, k < f 1 → X k < 4096 ∧ Y k < 4096) : SOK (sgN σ f X Y U W) := by
  have e2 : sP (sgN σ f X Y U W) = 0 := h15
  refine ⟨hf, fun s k hs hk => ?_, fun p hp => ?_⟩
  · unfold sl at hs
    rw [e2] at hs
    have e : s = 12 := by omega
    subst e; rw [sX_12, sY_12]; exact hX k hk
  · rw [e2] at hp
    omega
theorem RC_n (hP : sP σ ≤ 12) (h : RC σ I J) (h1 : f 1 = sq σ 1) (h15 : f 15 = sq σ 15) (h7 : f 7 = sq σ 7) (h8 : f 8 = sq σ 8) (h9 : f 9 = sq σ 9) (hq : RCq (sgN σ f X Y U W) I2 J2) (hg12 : RCg (sgN σ f X Y U W) I2 J2 12) (hI : ∀ a, 34 ≤ a → a < 238 → I2 a = I a) (hJ : ∀ a, 34 ≤ a → a < 238 → J2 a = J a) : RC (sgN σ f X Y U W) I2 J2 := by
  have e1 : sN (sgN σ f X Y U W) = sN σ := h1
  have e2 : sP (sgN σ f X Y U W) = sP σ := h15
  refine ⟨hq, fun s hs => ?_, fun p hp => ?_⟩
  · by_cases e : s = 12
    · subst e; exact hg12
    · unfold sl at hs
      rw [e2] at hs
      have hg := h.2.1 s hs
      have hr : gA s = 34 + 17 * s + 2 := gA_p (by omega)
      unfold RCg at hg ⊢
      rw [hI (gA s) (by omega) (by omega), hJ (gA s + 2) (by omega) (by omega), hJ (gA s + 4) (by omega) (by omega), hJ (gA s + 6) (by omega) (by omega), hJ (gA s + 8) (by omega) (by omega), e1, sX_N (by omega), sY_N (by omega), sU_N (by omega), sW_N (by omega)]
      exact hg
  · rw [e2] at hp
    have hg := h.2.2 p hp
    unfold RCp at hg ⊢
    rw [hI (34 + 17 * p + 1) (by omega) (by omega), hJ (34 + 17 * p + 1) (by omega) (by omega), hJ (34 + 17 * p + 12) (by omega) (by omega), hJ (34 + 17 * p + 14) (by omega) (by omega), hJ (34 + 17 * p + 16) (by omega) (by omega), e1, nxS_N h1 h15, glS_N h1 h15 h7 h8 h9]
    exact hg
theorem RC_b (h15 : f 15 = 0) (hq : RCq (sgN σ f X Y U W) I2 J2) (hg12 : RCg (sgN σ f X Y U W) I2 J2 12) : RC (sgN σ f X Y U W) I2 J2 := by
  have e2 : sP (sgN σ f X Y U W) = 0 := h15
  refine ⟨hq, fun s hs => ?_, fun p hp => ?_⟩
  · unfold sl at hs
    rw [e2] at hs
    have e : s = 12 := by omega
    subst e; exact hg12
  · rw [e2] at hp
    omega
theorem RC_c (h : RC σ I J) : I 2 5 = nI (sN σ) := h.1.2.1
/-- the class's rows of now -/
theorem RC_g (h : RC σ I J) : I 2 5 = nI (sN σ) ∧ ∀ k, k < sN σ → J 4 k = lZ (sX σ 12 k) ∧ J 6 k = lZ (sY σ 12 k) ∧ J 8 k = sU σ 12 k ∧ J 10 k = sW σ 12 k := h.2.1 12 (Or.inl rfl)
end
