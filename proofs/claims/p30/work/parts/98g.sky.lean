/-! THE SKY: what is always so -/
section
variable {σ : Sg} {c p k e o a b n m t z j x i P l N : Nat} {A : K6} {L : Nat → Nat → Bool} {R : Nat → Option Nat} {g g2 : hf_G} {I I2 : hf_I} {J J2 : hf_J} {kd : Nat × Nat}
/-- no more halos than grains -/
theorem En_c (hE : EnH L c l R n) : n ≤ c := by
  obtain ⟨M, ld, hm, hl, hb, hc, hR⟩ := hE
  have h := ctB_enum (c := c) n (fun k => decide (M k = k ∧ l ≤ szM M c k)) ld (fun h hh => ⟨(hl h hh).1, decide_eq_true ⟨(hl h hh).2.1, (hl h hh).2.2⟩⟩) (fun h i hh hi e => by
    by_cases u : h < i
    · have := hb h i u hi
      rw [e] at this
      rcases this with v | ⟨-, v⟩
      · exact absurd v (Int.lt_irrefl _)
      · exact absurd v (Nat.lt_irrefl _)
    · by_cases u2 : i < h
      · have := hb i h u2 hh
        rw [e] at this
        rcases this with v | ⟨-, v⟩
        · exact absurd v (Int.lt_irrefl _)
        · exact absurd v (Nat.lt_irrefl _)
      · omega) (fun k hk hp => by
    have hp := of_decide_eq_true hp
    exact hc k hk hp.1 hp.2)
  rw [← h]
  exact ctB_le c
theorem sC_N (hσ : SOK σ) (hp : p < sP σ) : sC σ p ≤ sN σ := En_c (hσ.2.2 p hp).1
/-- one that is seen -/
def eT (σ : Sg) (q : K6) (j p k : Nat) : Prop := q.2.1 j = 100 * p + k ∧ q.2.2.1 j = rZ (xS σ p k) (yS σ p k) ∧ q.2.2.2.2.1 j = ptZ (xS σ p k) (yS σ p k) ∧ skB σ p k = true
def ordN (a b : Nat) : Prop := b / 100 ≤ a / 100 ∧ (b / 100 < a / 100 ∨ a < b)
def skT (σ : Sg) (m t : Nat) (q : K6) : Prop := (∀ j, j < q.1 → ∃ p k, p < sP σ ∧ k < sC σ p ∧ eT σ q j p k ∧ (m < p ∨ (p = m ∧ k < t))) ∧ ∀ j, j + 1 < q.1 → ordN (q.2.1 j) (q.2.1 (j + 1))
theorem skT_s (hσ : SOK σ) (hm : m < sP σ) (ht : t < sC σ m) (h : skT σ m t A) : skT σ m (t + 1) (skS σ m t A) ∧ (skS σ m t A).1 ≤ A.1 + 1 := by
  obtain ⟨h1, h2⟩ := h
  have hc := sok_C hσ hm
  unfold skS
  by_cases c1 : skB σ m t = true
  · rw [if_pos c1]
    refine ⟨⟨fun j hj => ?_, fun j hj => ?_⟩, Nat.le_refl _⟩
    · dsimp only at hj ⊢
      by_cases e : j = A.1
      · subst e
        refine ⟨m, t, hm, ht, ⟨?_, ?_, ?_, c1⟩, Or.inr ⟨rfl, Nat.lt_succ_self _⟩⟩
        · exact up_s
        · exact up_s
        · exact up_s
      · obtain ⟨p, k, u1, u2, ⟨v1, v2, v3, v4⟩, u3⟩ := h1 j (by omega)
        refine ⟨p, k, u1, u2, ⟨?_, ?_, ?_, v4⟩, by omega⟩
        · exact (up_n e).trans v1
        · exact (up_n e).trans v2
        · exact (up_n e).trans v3
    · dsimp only at hj ⊢
      by_cases e : j + 1 = A.1
      · rw [e, up_s, up_n (show j ≠ A.1 by omega)]
        obtain ⟨p, k, u1, u2, ⟨v1, -⟩, u3⟩ := h1 j (by omega)
        have hc2 := sok_C hσ u1
        rw [v1]
        unfold ordN
        omega
      · rw [up_n e, up_n (show j ≠ A.1 by omega)]
        exact h2 j (by omega)
  · rw [if_neg c1]
    refine ⟨⟨fun j hj => ?_, h2⟩, Nat.le_succ _⟩
    obtain ⟨p, k, u1, u2, u3, u4⟩ := h1 j hj
    exact ⟨p, k, u1, u2, u3, by omega⟩
theorem skT_1 (hσ : SOK σ) (hm : m < sP σ) (h : skT σ m 0 A) : ∀ t, t ≤ sC σ m → skT σ m t (sk1 σ m A t) ∧ (sk1 σ m A t).1 ≤ A.1 + t
  | 0, _ => ⟨h, Nat.le_refl _⟩
  | t + 1, ht => by
    obtain ⟨h1, h2⟩ := skT_1 hσ hm h t (by omega)
    have h3 := skT_s hσ hm (show t < sC σ m by omega) h1
    exact ⟨h3.1, by have := h3.2; show (skS σ m t (sk1 σ m A t)).1 ≤ _; omega⟩
theorem skT_2 (hσ : SOK σ) : ∀ (m : Nat) (A : K6), m ≤ sP σ → (m = 0 ∨ skT σ (m - 1) 0 A) → (m = 0 → ∃ q t, skT σ q t A) → (∃ q t, skT σ q t (sk2 σ m A)) ∧ (sk2 σ m A).1 ≤ A.1 + sN σ * m
  | 0, A, _, _, h => ⟨h rfl, Nat.le_add_right _ _⟩
  | m + 1, A, hm, h, _ => by
    have h0 : skT σ m 0 A := h.resolve_left (by omega)
    obtain ⟨h1, h2⟩ := skT_1 hσ (show m < sP σ by omega) h0 (sC σ m) (Nat.le_refl _)
    have hc := sC_N hσ (show m < sP σ by omega)
    have h3 := skT_2 hσ m (sk1 σ m A (sC σ m)) (by omega) (by
      by_cases e : m = 0
      · exact Or.inl e
      · refine Or.inr ⟨fun j hj => ?_, h1.2⟩
        obtain ⟨p, k, u1, u2, u3, u4⟩ := h1.1 j hj
        exact ⟨p, k, u1, u2, u3, by omega⟩) (fun _ => ⟨m, _, h1⟩)
    refine ⟨h3.1, ?_⟩
    have h4 := h3.2
    show (sk2 σ m (sk1 σ m A (sC σ m))).1 ≤ _
    have e : sN σ * (m + 1) = sN σ * m + sN σ := Nat.mul_succ _ _
    omega
theorem sky_ok (hσ : SOK σ) : (skA σ).1 ≤ sN σ * sP σ ∧ (∀ j, j < (skA σ).1 → ∃ p k, p < sP σ ∧ k < sC σ p ∧ eT σ (skA σ) j p k) ∧ ∀ j, j + 1 < (skA σ).1 → ordN ((skA σ).2.1 j) ((skA σ).2.1 (j + 1)) := by
  have h0 : ∀ m t, skT σ m t (0, (fun _ => 0), (fun _ => 0), (fun _ => 0), (fun _ => 0), fun _ => 0) := fun m t => ⟨fun j hj => absurd hj (Nat.not_lt_zero _), fun j hj => absurd hj (Nat.not_lt_zero _)⟩
  obtain ⟨⟨q, t, h1, h2⟩, h3⟩ := skT_2 hσ (sP σ) (0, (fun _ => 0), (fun _ => 0), (fun _ => 0), (fun _ => 0), fun _ => 0) (Nat.le_refl _) (Or.inr (h0 _ _)) (fun _ => ⟨0, 0, h0 _ _⟩)
  refine ⟨by have h4 : (skA σ).1 ≤ 0 + sN σ * sP σ := h3; omega, fun j hj => ?_, h2⟩
  obtain ⟨p, k, u1, u2, u3, -⟩ := h1 j hj
  exact ⟨p, k, u1, u2, u3⟩
/-- spectra of one part are a fibre apart -/
theorem sp_far (hσ : SOK σ) (hn : n < (skA σ).1) (hm : m < (skA σ).1) (hne : n ≠ m) (h1 : spA σ n = true) (h2 : spA σ m = true) : (skA σ).2.2.2.2.1 n ≠ (skA σ).2.2.2.2.1 m ∨ sq σ 14 ≤ (if (skA σ).2.2.1 m ≤ (skA σ).2.2.1 n then (skA σ).2.2.1 n - (skA σ).2.2.1 m else (skA σ).2.2.1 m - (skA σ).2.2.1 n) := by
  have hs : spZ σ (spA σ) := (spc_z (S := fun _ => 0) hσ (fun _ _ => rfl) (fun _ _ => rfl) (fun _ _ => rfl)).2
  have key : ∀ u v, u < (skA σ).1 → v < (skA σ).1 → spA σ u = true → spA σ v = true → bef (fun k => ((skA σ).2.2.2.2.2 k : Int)) u v → nrZ (skA σ).2.2.1 (skA σ).2.2.2.2.1 (sq σ 14) v u = false := fun u v hu hv a b hb => (hs v hv).mp b u hu hb a
  have fin : ∀ u v, nrZ (skA σ).2.2.1 (skA σ).2.2.2.2.1 (sq σ 14) v u = false → (skA σ).2.2.2.2.1 u ≠ (skA σ).2.2.2.2.1 v ∨ sq σ 14 ≤ (if (skA σ).2.2.1 u < (skA σ).2.2.1 v then (skA σ).2.2.1 v - (skA σ).2.2.1 u else (skA σ).2.2.1 u - (skA σ).2.2.1 v) := fun u v h => by
    unfold nrZ at h
    rw [Bool.and_eq_false_iff, decide_eq_false_iff_not, decide_eq_false_iff_not] at h
    exact h.imp (fun x => x) (fun x => Nat.le_of_not_lt x)
  have tot : bef (fun k => ((skA σ).2.2.2.2.2 k : Int)) n m ∨ bef (fun k => ((skA σ).2.2.2.2.2 k : Int)) m n := by
    unfold bef
    omega
  rcases tot with u | u
  · rcases fin n m (key n m hn hm h1 h2 u) with v | v
    · exact Or.inl v
    · right
      split at v <;> split <;> omega
  · rcases fin m n (key m n hm hn h2 h1 u) with v | v
    · exact Or.inl fun q => v q.symm
    · right
      split at v <;> split <;> omega
/-- something is made behind the class's rows -/
theorem Lay.mk (h : Lay g) (h270 : 270 ≤ hf_n g) (hn : hf_n g + 1 < 1000000) : Lay (hf_mk g kd n) := by
  have s : same g (hf_mk g kd n) 0 270 := fun a _ ha => ⟨if_neg (by omega), kw_ne (by omega)⟩
  obtain ⟨⟨h1, h2, h3, h4, h5, h6⟩, h7, h8⟩ := h
  exact ⟨⟨h1.cg s (by decide) (by decide), h2.cg s (by decide) (by decide), h3.cg s (by decide) (by decide), h4.cg s (by decide) (by decide), h5.cg s (by decide) (by decide), h6.cg s (by decide) (by decide)⟩, hn, (if_neg (by omega)).trans h8⟩
end
