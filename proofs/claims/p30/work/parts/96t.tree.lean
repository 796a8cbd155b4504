section
variable {σ : Sg} {I I2 : hf_I} {J J2 : hf_J} {g : hf_G} {c k f l p n P t q e o m z : Nat} {i j x y : Int32}
/-- what goes on in what, for halos only -/
def nxC (σ : Sg) : Nat → Nat → Option (Nat × Nat) := fun m o => if m < sP σ ∧ o < sC σ m then nxS σ m o else none
theorem nxC_k (hm : m < sP σ) (ho : o < sC σ m) : nxC σ m o = nxS σ m o := if_pos ⟨hm, ho⟩
theorem nxC_lt (hσ : SOK σ) {a b : Nat} (h : nxC σ m o = some (a, b)) : m < a ∧ a < 12 ∧ b < 64 ∧ a ≤ m + 2 ∧ a < sP σ ∧ b < sC σ a := by
  unfold nxC at h
  by_cases c1 : m < sP σ ∧ o < sC σ m
  · rw [if_pos c1] at h
    have h1 := sok_C hσ c1.1
    obtain ⟨b1, b2, b3⟩ := nxS_lt hσ (by omega) h
    have h2 := sok_C hσ b2
    have hP := sok_P hσ
    rw [nxS_z hσ (by omega)] at h
    have := nxZ_2 h
    omega
  · rw [if_neg c1] at h; cases h
theorem tsR_cong {nx nx2 : Nat → Nat → Option (Nat × Nat)} {cn : Nat → Nat} : ∀ m, (∀ e o, e < m → o < cn e → nx e o = nx2 e o) → ∀ R s, tsR cn nx m R s = tsR cn nx2 m R s
  | 0, _, _, _ => rfl
  | m + 1, h, R, s => by
    rw [tsR, tsR]
    have e1 : orL (cn m) (ldP nx R m) = orL (cn m) (ldP nx2 R m) := it_cong fun k s hk => by
      have : ldP nx R m k = ldP nx2 R m k := by rw [ldP, ldP, h m k (by omega) hk]
      rw [this]
    rw [e1]
    exact tsR_cong m (fun e o he ho => h e o (by omega) ho) _ _
theorem hmZ_cong {nx nx2 : Nat → Nat → Option (Nat × Nat)} {u : Int} {v : Int32} {t : Nat} (h : ∀ o, o < t → nx u.toNat o = nx2 u.toNat o) : hmZ nx p k u v t = hmZ nx2 p k u v t := it_cong fun o s ho => by rw [h o ho]
theorem hmA_cong {nx nx2 : Nat → Nat → Option (Nat × Nat)} {cn : Nat → Nat} (h : ∀ e o, e < n → o < cn e → nx e o = nx2 e o) : hmA n cn nx p k = hmA n cn nx2 p k := by
  have key : ∀ (u : Int) (v : Int32), hmZ nx p k u v (ctZ n cn u) = hmZ nx2 p k u v (ctZ n cn u) := fun u v => by
    by_cases c1 : 0 ≤ u ∧ u < n
    · refine hmZ_cong fun o ho => ?_
      unfold ctZ at ho
      rw [if_pos c1] at ho
      exact h _ o (by omega) ho
    · have : ctZ n cn u = 0 := if_neg c1
      rw [this]
      rfl
  unfold hmA
  rw [key, key]
def trS (σ : Sg) (p k m : Nat) : Int32 := if m = 0 then nI (chN (frS σ) (p + 1) p k) else if m = 1 then nI (cnZ (nxC σ) (sC σ) false p (oneS p k) 0) else nI (cnZ (nxC σ) (sC σ) true p (oneS p k) 1)
theorem frS_lt (h : frS σ p k = some (e, o)) : e < p ∧ o < sC σ e := frM_k h
theorem brS_c (hσ : SOK σ) (hC : RC σ I J) (hp : p < sP σ) (hk : k < sC σ p) : brA (sP σ) (sC σ) (fun i => J (34 + 17 * i + 12)) (nxS σ) p k = trS σ p k 0 := by
  have hP := sok_P hσ
  have h1 := ch_eq (F := fun e o => frA (sP σ) (sC σ) (fun i => J (34 + 17 * i + 12)) (nxS σ) e o) (fr := frS σ) (cn := sC σ) (P := sP σ) (fun e o he ho => frS_c hσ hC he ho) (fun e o j x _ _ h => frS_lt h) hP (fun e he => sok_C hσ he) 12 p k 0 (by omega) hp hk
  have h2 := ch_fuel (fr := frS σ) (fun e o j x h => (frS_lt h).1) 12 (p + 1) p k (by omega) (by omega)
  rw [h2] at h1
  exact h1.trans (Int32.zero_add _)
theorem ts_cS (hσ : SOK σ) (hp : p < sP σ) (hk : k < sC σ p) {O : Nat → Int64} : (tsR (sC σ) (nxS σ) p (up (fun j => if j < 12 then 0 else O j) p (bitL k)) 1).2 = nI (cnZ (nxC σ) (sC σ) true p (oneS p k) 1) := by
  have hP := sok_P hσ
  have hkc := sok_C hσ hp
  rw [tsR_cong (nx2 := nxC σ) p (fun e o he ho => (nxC_k (by omega) ho).symm)]
  refine ts_c (p := p) (fun m o j h hm ho hh => ⟨(nxC_lt hσ hh).1, (nxC_lt hσ hh).2.1, (nxC_lt hσ hh).2.2.1⟩) (fun m hm => sok_C hσ (by omega)) p (Nat.le_refl _) _ _ _ (fun j h h1 h2 h3 => ?_) (fun j h hj => ?_)
  · unfold oneS
    by_cases c1 : j = p
    · subst c1
      rw [up_s, bt_bit h3 (by omega)]
      exact decide_eq_decide.mpr ⟨fun q => ⟨rfl, q⟩, fun q => q.2⟩
    · rw [up_n c1, if_pos h2, bt_0 h3, decide_eq_false (fun q => c1 q.1)]
  · exact decide_eq_false (by omega)
end
