section
variable {σ : Sg} {A B : Nat → Option Nat} {R O : Nat → Int32} {I I2 : hf_I} {J J2 : hf_J} {g : hf_G} {c k f l p n P t q : Nat} {i j x y : Int32}
theorem sok_H (hσ : SOK σ) (hp : p < sP σ) (hk : k < sN σ) (h : sH σ p k = some f) : f < sC σ p := by
  obtain ⟨⟨M, ld, -, -, -, -, h5⟩, -⟩ := hσ.2.2 p hp
  exact ((h5 k f hk).mp h).1
theorem sok_C (hσ : SOK σ) (hp : p < sP σ) : sC σ p ≤ 64 := (hσ.2.2 p hp).2.2.2.2.2
theorem RwH_k (h : k < 64) : RwH σ (64 * p + k) = coM (sH σ p k) := by
  unfold RwH
  rw [show (64 * p + k) / 64 = p by omega, show (64 * p + k) % 64 = k by omega]
theorem nxS_z (hσ : SOK σ) (hk : k < 64) : nxS σ p k = nxZ (sH σ) (sP σ) (sN σ) p k := by
  have hN := sok_N hσ
  exact nxO_z (fun l j hl hj => RwH_k (by omega)) (fun l j f hl hj hf => by have := sok_H hσ hl hj hf; have := sok_C hσ hl; omega) hk hN.2
theorem nxS_lt (hσ : SOK σ) (hk : k < 64) {a b : Nat} (h : nxS σ p k = some (a, b)) : p < a ∧ a < sP σ ∧ b < sC σ a := by
  rw [nxS_z hσ hk] at h
  have := nxZ_lt (cn := sC σ) (fun l j f hl hj hf => sok_H hσ hl hj hf) h
  exact ⟨this.1, this.2.1, this.2.2.1⟩
theorem RC_alb (hσ : SOK σ) (hL : Lay g) (hC : RC σ I J) : Alb g I J (sP σ) (sC σ) (fun i => J (34 + 17 * i + 12)) (nxS σ) := by
  refine ⟨lay_al hL, sok_P hσ, RC_P hC, hC.1.2.2.2.2.2.2.2.2.2.2.2.2.2.2.2.2, fun i hi => ⟨sok_C hσ hi, (hC.2.2 i hi).1⟩, fun _ _ => rfl, fun i k hi hk => (hC.2.2 i hi).2.2.2.2.1 k hk, fun i k a b hi hk h => nxS_lt hσ (by have := sok_C hσ hi; omega) h⟩
/-- the pair names a halo that is kept -/
def isK (σ : Sg) (i j : Int32) : Prop := ∃ p k, p < sP σ ∧ k < sC σ p ∧ i = nI p ∧ j = nI k
theorem nx_ok (hσ : SOK σ) (hL : Lay g) (hC : RC σ I J) (h : ¬ isK σ i j) : NX g I J i j := by
  rcases c_kept_cases (lay_hx hL) (RC_alb hσ hL hC) i j with h2 | h2
  · exact absurd h2 h
  · exact h2.1
end
