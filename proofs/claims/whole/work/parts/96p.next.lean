section
variable {σ : Sg} {A B : Nat → Option Nat} {R O : Nat → Int32} {I I2 : hf_I} {J J2 : hf_J} {g : hf_G} {c k f l p n P t q : Nat} {i j x y : Int32}
theorem sok_H (hσ : SOK σ) (hp : p < sP σ) (hk : k < sN σ) (h : sH σ p k = some f) : f < sC σ p := by
  obtain ⟨⟨M, ld, -, -, -, -, h5⟩, -⟩ := hσ.2.2 p hp
  exact ((h5 k f hk).mp h).1
theorem sok_C (hσ : SOK σ) (hp : p < sP σ) : sC σ p ≤ 64 := (hσ.2.2 p hp).2.2.2.2.2
theorem RwH_k (h : k < 64) : RwH σ (64 * p + k) = coM (sH σ p k) := by
  unfold RwH
  rw [show (64 * p + k) / 64 = p by omega, show (64 * p + k) % 64 = k by omega]
theorem nxS_z (hσ : SOK σ) (hk : k < 64) : nxS σ p k = nxZ (sH σ) (sP σ) (sN σ) p k := by
  have hN := sok_N hσ
  exact nxO_z (fun l j hl hj => RwH_k (by omega)) (fun l j f hl hj hf => by have := sok_H hσ hl hj hf; have := sok_C hσ hl; omega) hk hN.2
theorem nxS_lt (hσ : SOK σ) (hk : k < 64) {a b : Nat} (h : nxS σ p k = some (a, b)) : p < a ∧ a < sP σ ∧ b < sC σ a := by
  rw [nxS_z hσ hk] at h
  have := nxZ_lt (cn := sC σ) (fun l j f hl hj hf => sok_H hσ hl hj hf) h
  exact ⟨this.1, this.2.1, this.2.2.1⟩
theorem nxM_S (hσ : SOK σ) (hM : RM σ I J) (hk : k < 64) : nxM I (sP σ) (sN σ) p k = nxS σ p k := by
  have hN := sok_N hσ
  rw [nxS_z hσ hk]
  exact nxO_z (fun l j hl hj => (hM.2.2 l hl).2 j hj) (fun l j f hl hj hf => by have := sok_H hσ hl hj hf; have := sok_C hσ hl; omega) hk hN.2
theorem RC_alb (hσ : SOK σ) (hL : Lay g) (hC : RC σ I J) : Alb g I J (sP σ) (sC σ) (fun i => J (34 + 17 * i + 12)) (nxS σ) := by
  refine ⟨lay_al hL, sok_P hσ, RC_P hC, hC.1.2.2.2.2.2.2.2.2.2.2.2.2.2.2.2.2, fun i hi => ⟨sok_C hσ hi, (hC.2.2 i hi).1⟩, fun _ _ => rfl, fun i k hi hk => (hC.2.2 i hi).2.2.2.2.1 k hk, fun i k a b hi hk h => nxS_lt hσ (by have := sok_C hσ hi; omega) h⟩
theorem RM_mdp (hσ : SOK σ) (hM : RM σ I J) : Mdp I (sN σ) (sP σ) (sC σ) := by
  refine ⟨RM_c hM, (sok_N hσ).2, RM_P hM, sok_P hσ, fun e he => ⟨sok_C hσ he, (hM.2.2 e he).1⟩, fun e k he hk => ?_⟩
  rw [(hM.2.2 e he).2 k hk]
  cases h : sH σ e k with
  | none => exact Or.inl rfl
  | some f => exact Or.inr ⟨f, sok_H hσ he hk h, rfl⟩
/-- the pair names a halo that is kept -/
def isK (σ : Sg) (i j : Int32) : Prop := ∃ p k, p < sP σ ∧ k < sC σ p ∧ i = nI p ∧ j = nI k
theorem nx_ok (hσ : SOK σ) (hL : Lay g) (hC : RC σ I J) (h : ¬ isK σ i j) : NX g I J i j := by
  rcases c_kept_cases (lay_hx hL) (RC_alb hσ hL hC) i j with h2 | h2
  · exact absurd h2 h
  · exact h2.1
theorem mo_ok (hσ : SOK σ) (hL : Lay g) (hM : RM σ I J) (h : ¬ isK σ i j) : MO g I J i j false := m_isOldX (lay_md hL) (RM_mdp hσ hM) h
theorem RM_sh {H : Nat → Int32} (hσ : SOK σ) (hM : RM σ I J) (hr : q = 280 ∨ q = 281 ∨ q = 282) : RM σ (hf_w (thI I 0) q H) J ∧ hf_w (thI I 0) q H 270 38 = 0 ∧ kM I (hf_w (thI I 0) q H) J J := by
  have hq : 277 ≤ q ∧ q < 292 := by rcases hr with rfl | rfl | rfl <;> decide
  refine ⟨RM_fr (sok_P hσ) (sok_N hσ).2 hM ⟨fun a b ha => ?_, fun _ _ => rfl⟩, ?_, fun a ha => ⟨?_, rfl⟩⟩
  · rw [kw_ne (by unfold quI at ha; omega), th_q ha]
  · rw [kw_ne (by omega), th_38]
  · rw [kw_ne (by omega), th_r (by omega)]
theorem agr_next (hσ : SOK σ) : agr 1 cdI3 σ (fun g I J => hf_rn 125 0 [some (.ref 0), some (.int i), some (.int j)] [] g I J) (fun g I J => hf_rn 199 0 [some (.ref 270), some (.int i), some (.int j)] [] g I J) := by
  by_cases hx : isK σ i j
  · obtain ⟨p, k, hp, hk, rfl, rfl⟩ := hx
    refine Or.inl ⟨σ, some (.int (cdI (nxS σ p k))), hσ, ⟨_, rfl⟩, fun g I J hL hW hC => cOK_0 hC (c_nextF (lay_hx hL) (RC_alb hσ hL hC) hp hk), fun g I J hL hM => ?_⟩
    obtain ⟨H, -, hr⟩ := m_nextF (J := J) (lay_md hL) (RM_mdp hσ hM) hp hk
    rw [nxM_S hσ hM (by have := sok_C hσ hp; omega)] at hr
    obtain ⟨h1, h2, h3⟩ := RM_sh (H := H) hσ hM (Or.inl rfl)
    exact ⟨_, _, hr, h1, h2, h3⟩
  · exact Or.inr ⟨3, some (.int 0), Or.inr (Or.inr rfl), (by decide : ¬ cdI3 3 = 0), ⟨_, rfl⟩, fun g I J hL hW hC => cEX_0 hC (c_nextX (lay_hx hL) (nx_ok hσ hL hC hx)), fun g I J hL hM => mOK_th hσ hM (m_nextX (lay_md hL) (mo_ok hσ hL hM hx))⟩
end
