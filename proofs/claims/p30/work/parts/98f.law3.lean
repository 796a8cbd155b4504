/-! THE LAW: trees and galaxies -/
section
variable {σ : Sg} {g g1 : hf_G} {I I1 I2 : hf_I} {J J1 J2 : hf_J} {s k a b c d n m l t q h p e o P z : Nat} {i j y : Int32} {l2 l3 l6 l7 l8 l9 l10 l11 l12 l13 : Option Value}
theorem ct_ch (hσ : SOK σ) (hP : p < sP σ) (hk : k < sC σ p) (h : frS σ p k = some (e, o)) : chN (frS σ) (p + 1) p k = 1 + chN (frS σ) (e + 1) e o := by
  have e2 : chN (frS σ) (p + 1) p k = 1 + chN (frS σ) p e o := by rw [chN, h]
  have hl := (frS_lt h).1
  rw [e2, ch_fuel (fun e o j x hj => (frS_lt hj).1) p (e + 1) e o hl (Nat.lt_succ_self _)]
/-- the numbers of one halo's tree -/
def onN (σ : Sg) (p k : Nat) : Nat := cnZ (nxC σ) (sC σ) false p (oneS p k) 0
def alN (σ : Sg) (p k : Nat) : Nat := cnZ (nxC σ) (sC σ) true p (oneS p k) 1
def brN (σ : Sg) (p k : Nat) : Nat := chN (frS σ) (p + 1) p k
theorem tr_0 : trS σ p k 0 = nI (brN σ p k) := rfl
theorem tr_1 : trS σ p k 1 = nI (onN σ p k) := rfl
theorem tr_2 : trS σ p k 2 = nI (alN σ p k) := rfl
theorem tr_ok (hσ : SOK σ) (hp : p < sP σ) (hk : k < sC σ p) : onN σ p k < alN σ p k ∧ brN σ p k ≤ alN σ p k ∧ alN σ p k ≤ 1000 ∧ brN σ p k ≤ 13 ∧ (frS σ p k = none → brN σ p k = 1 ∧ onN σ p k = 0 ∧ alN σ p k = 1) ∧ ∀ e o, frS σ p k = some (e, o) → brN σ p k = 1 + brN σ e o ∧ 0 < onN σ p k ∧ e < p ∧ o < sC σ e ∧ nxS σ e o = some (p, k) := by
  have hP := sok_P hσ
  have hc : ∀ m, m < p → sC σ m ≤ 64 := fun m hm => sok_C hσ (by omega)
  have h1 : onN σ p k + 1 ≤ alN σ p k := cn_on (cn := sC σ) (nx := nxC σ) p (Nat.le_refl _) _ _ _ (fun _ _ h => h) (Nat.le_refl _)
  have h2 : 1 + brN σ p k ≤ alN σ p k + 1 := cn_br (P := sP σ) (fr := frS σ) (nx := nxC σ) (cn := sC σ) (fun j x e o hj hf => by
      obtain ⟨u1, u2, u3⟩ := frS_some hσ hj hf
      exact ⟨u1, u2, by rw [nxC_k (by omega) u2]; exact u3⟩) (p + 1) p k (Nat.lt_succ_self _) hp (oneS p k) 1 (decide_eq_true ⟨rfl, rfl⟩)
  have h3 := cnZ_up (nx := nxC σ) (cn := sC σ) (p := p) hc (al := true) p (Nat.le_refl _) (oneS p k) 1
  have h4 : chN (frS σ) (p + 1) p k ≤ p + 1 := ch_up (p + 1) p k
  refine ⟨by omega, by omega, ?_, ?_, fun hf => ?_, fun e o hf => ?_⟩
  · show cnZ (nxC σ) (sC σ) true p (oneS p k) 1 ≤ 1000
    omega
  · show chN (frS σ) (p + 1) p k ≤ 13
    omega
  · have hn : ∀ m o, m < p → o < sC σ m → nxC σ m o ≠ some (p, k) := fun m o hm ho => by
      rw [nxC_k (by omega) ho]
      exact frS_none hσ hp hf (by omega) ho
    exact ⟨by unfold brN; rw [chN, hf], cn_one hn p (Nat.le_refl _) 0, cn_one hn p (Nat.le_refl _) 1⟩
  · obtain ⟨u1, u2, u3⟩ := frS_some hσ hp hf
    refine ⟨ct_ch hσ hp hk hf, ?_, u1, u2, u3⟩
    have := cn_pos (nx := nxC σ) (cn := sC σ) (p := p) (k := k) u1 u2 (by rw [nxC_k (by omega) u2]; exact u3) p (Nat.le_refl _) 0 u1
    exact this
end
