def vaS (σ : Sg) : Nat × (Nat → Bool) × (Nat → Nat → Nat) := vA (sH σ) (sC σ) (nxS σ) (sq σ 7) (sq σ 8) (sq σ 9) (sN σ) (sP σ)
section
variable {σ : Sg} {I I2 : hf_I} {J J2 : hf_J} {g : hf_G} {c k f l p n P t q a b d m : Nat} {i j x y : Int32} {nx2 : Nat → Nat → Option (Nat × Nat)} {Ga : Nat → Nat → Int64} {Hs : Nat → Nat → Int64}
theorem sok_rec (hσ : SOK σ) : sq σ 7 ≤ 1000 ∧ sq σ 8 ≤ 1000 ∧ sq σ 9 ≤ 5000 := ⟨(sok_r hσ (i := 7) (by decide)).2, (sok_r hσ (i := 8) (by decide)).2, (sok_r hσ (i := 9) (by decide)).2⟩
theorem nxS_b (hσ : SOK σ) (p k a b : Nat) (hp : p < sP σ) (hk : k < sC σ p) (e : nxS σ p k = some (a, b)) : p < a ∧ a < sP σ ∧ b < sC σ a := nxS_lt hσ (by have := sok_C hσ hp; omega) e
theorem gl_vS (hσ : SOK σ) : (glS σ).1 = nI (vaS σ).1 ∧ vM (vaS σ).2.2 (glS σ).2.2 ∧ ∀ n, n < 768 → totN ((vaS σ).2.2 n) ≤ 6400 := by
  have hN := sok_N hσ
  have hP := sok_P hσ
  obtain ⟨r1, r2, r3⟩ := sok_rec hσ
  have h := vM_A (H := sH σ) (cn := sC σ) (nx := nxS σ) (R := RwH σ) hP hN.2 r1 r2 r3 (fun p k hp hk => RwH_k (by omega)) (fun p k h hp hk e => by have := sok_H hσ hp hk e; have := sok_C hσ hp; omega) (fun p hp => sok_C hσ hp) (fun p k a b hp hk e => by
    obtain ⟨h1, h2, h3⟩ := nxS_b hσ p k a b hp hk e
    have := sok_C hσ h2
    omega) (sP σ) (Nat.le_refl _)
  exact ⟨h.1, h.2.2.1, h.2.2.2.2⟩
theorem gas_S (hσ : SOK σ) (hnx : ∀ p k, p < sP σ → k < sC σ p → nx2 p k = nxS σ p k) (hHs : ∀ q h k, q < sP σ → h < sC σ q → k < 64 → btL (Hs q h) k = decide (k < sN σ ∧ sH σ q k = some h)) : vQ (sH σ) (sC σ) (sN σ) (sP σ) (sP σ) (g2F (sC σ) nx2 (lZ (sq σ 7 : Nat)) (lZ (sq σ 8 : Nat)) (lZ (sq σ 9 : Nat)) (g1F (sC σ) Hs Ga (sP σ)).2 (sP σ)) (vaS σ).2.2 := by
  have hN := sok_N hσ
  have hP := sok_P hσ
  obtain ⟨r1, r2, r3⟩ := sok_rec hσ
  exact vQ_A (nx := nxS σ) hN.2 r1 r2 r3 hP (fun p hp => sok_C hσ hp) (fun p k h hp hk e => by have := sok_H hσ hp hk e; have := sok_C hσ hp; omega) (nxS_b hσ) hnx (g1_Q hN.2 (fun p hp => sok_C hσ hp) (fun p k h hp hk e => sok_H hσ hp hk e) hHs) (sP σ) (Nat.le_refl _)
theorem gas_k (hσ : SOK σ) (hg : vQ (sH σ) (sC σ) (sN σ) (sP σ) (sP σ) Ga (vaS σ).2.2) (hp : p < sP σ) (hk : k < sC σ p) : Ga p (4 * k) = ((glS σ).2.2.1 (64 * p + k)).toInt64 ∧ Ga p (4 * k + 1) = ((glS σ).2.2.2.1 (64 * p + k)).toInt64 ∧ Ga p (4 * k + 2) = ((glS σ).2.2.2.2.1 (64 * p + k)).toInt64 ∧ Ga p (4 * k + 3) = ((glS σ).2.2.2.2.2 (64 * p + k)).toInt64 := by
  obtain ⟨-, h2, h3⟩ := gl_vS hσ
  have hP := sok_P hσ
  have hC := sok_C hσ hp
  obtain ⟨m1, m2, m3, m4⟩ := h2 (64 * p + k) (by omega)
  obtain ⟨t1, t2, t3, t4, -⟩ := tot_le (h3 (64 * p + k) (by omega))
  have e : ∀ w, w < 4 → Ga p (4 * k + w) = lZ ((vaS σ).2.2 (64 * p + k) w : Nat) := fun w hw => by rw [hg p k w hp hk hw, if_neg (by omega)]; rfl
  rw [m1, m2, m3, m4, nI_ll (by omega), nI_ll (by omega), nI_ll (by omega), nI_ll (by omega)]
  exact ⟨e 0 (by decide), e 1 (by decide), e 2 (by decide), e 3 (by decide)⟩
theorem RC_vQ (hσ : SOK σ) (hC : RC σ I J) : vQ (sH σ) (sC σ) (sN σ) (sP σ) (sP σ) (fun i => J (34 + 17 * i + 16)) (vaS σ).2.2 := by
  obtain ⟨-, h2, h3⟩ := gl_vS hσ
  have hP := sok_P hσ
  intro q h w hq hh hw
  have hc := sok_C hσ hq
  obtain ⟨m1, m2, m3, m4⟩ := h2 (64 * q + h) (by omega)
  obtain ⟨t1, t2, t3, t4, -⟩ := tot_le (h3 (64 * q + h) (by omega))
  obtain ⟨g1, g2, g3, g4⟩ := (hC.2.2 q hq).2.2.2.2.2 h hh
  rw [m1, nI_ll (by omega)] at g1
  rw [m2, nI_ll (by omega)] at g2
  rw [m3, nI_ll (by omega)] at g3
  rw [m4, nI_ll (by omega)] at g4
  rw [if_neg (by omega), Nat.add_zero]
  have : w = 0 ∨ w = 1 ∨ w = 2 ∨ w = 3 := by omega
  rcases this with rfl | rfl | rfl | rfl
  · exact g1
  · exact g2
  · exact g3
  · exact g4
theorem RC_gas (hσ : SOK σ) (hnx : ∀ p k, p < sP σ → k < sC σ p → nx2 p k = nxS σ p k) (hHs : ∀ q h k, q < sP σ → h < sC σ q → k < 64 → btL (Hs q h) k = decide (k < sN σ ∧ sH σ q k = some h)) (hq : RCq σ I J) (hg : ∀ s, sl σ s → RCg σ I J s) (hp : ∀ p, p < sP σ → I (34 + 17 * p + 1) 2 = nI (sC σ p) ∧ I (34 + 17 * p + 1) 4 = nI (sT σ p) ∧ J (34 + 17 * p + 1) 3 = lZ (sL σ p) ∧ (∀ h k, h < sC σ p → k < 64 → btL (J (34 + 17 * p + 12) h) k = decide (k < sN σ ∧ sH σ p k = some h)) ∧ ∀ k, k < sC σ p → J (34 + 17 * p + 14) k = cdL (nxS σ p k)) : RC σ I (gw J (sP σ) (g2F (sC σ) nx2 (lZ (sq σ 7 : Nat)) (lZ (sq σ 8 : Nat)) (lZ (sq σ 9 : Nat)) (g1F (sC σ) Hs Ga (sP σ)).2 (sP σ))) := by
  have hP := sok_P hσ
  have hv := gas_S (Ga := Ga) hσ hnx hHs
  generalize g2F (sC σ) nx2 (lZ (sq σ 7 : Nat)) (lZ (sq σ 8 : Nat)) (lZ (sq σ 9 : Nat)) (g1F (sC σ) Hs Ga (sP σ)).2 (sP σ) = G2 at hv
  have e : ∀ a, (∀ i, i < sP σ → a ≠ 34 + 17 * i + 16) → gw J (sP σ) G2 a = J a := fun a h => gw_ne h
  refine ⟨?_, fun s hs => ?_, fun p hp2 => ?_⟩
  · unfold RCq
    rw [e 238 (fun i hi => by omega), e 0 (fun i hi => by omega), e 13 (fun i hi => by omega), e 257 (fun i hi => by omega)]
    exact hq
  · have h := hg s hs
    unfold RCg at h ⊢
    have hgA : gA s = 2 ∨ ∃ p, p < sP σ ∧ gA s = 36 + 17 * p := by
      unfold gA
      rcases hs with hs | hs
      · exact Or.inl (if_pos hs)
      · exact Or.inr ⟨s, hs, by rw [if_neg (by omega)]; omega⟩
    rw [e (gA s + 2) (fun i hi => by rcases hgA with h | ⟨p, h1, h2⟩ <;> omega), e (gA s + 4) (fun i hi => by rcases hgA with h | ⟨p, h1, h2⟩ <;> omega), e (gA s + 6) (fun i hi => by rcases hgA with h | ⟨p, h1, h2⟩ <;> omega), e (gA s + 8) (fun i hi => by rcases hgA with h | ⟨p, h1, h2⟩ <;> omega)]
    exact h
  · obtain ⟨h1, h2, h3, h4, h5⟩ := hp p hp2
    unfold RCp
    rw [e (34 + 17 * p + 1) (fun i hi => by omega), e (34 + 17 * p + 12) (fun i hi => by omega), e (34 + 17 * p + 14) (fun i hi => by omega), gw_at hp2]
    exact ⟨h1, h2, h3, h4, h5, fun k hk => gas_k hσ hv hp2 hk⟩
theorem gw_hi (h : 270 ≤ a) (hP : P ≤ 12) : gw J P Ga a = J a := gw_ne fun i hi => by omega
end
