section
variable {b : Int32} {n c l : Nat} {H : Nat → Int64} {v : Int64} {X Y : Nat → Int64} {M ld : Nat → Nat}
theorem shH_ok : ∀ (n : Nat) (H : Nat → Int64), (shH b n H).1 ≤ n ∧ (∀ j, j < (shH b n H).1 → (shH b n H).2 j = H j) ∧ (∀ j, (shH b n H).1 < j → j ≤ n → (shH b n H).2 j = H (j - 1)) ∧ (∀ j, n < j → (shH b n H).2 j = H j) ∧ ((shH b n H).1 = 0 ∨ ¬ popI (H ((shH b n H).1 - 1)) < b) ∧ ∀ j, (shH b n H).1 ≤ j → j < n → popI (H j) < b
  | 0, H => ⟨Nat.le_refl _, fun _ _ => rfl, fun j h1 h2 => absurd h1 (by omega), fun _ _ => rfl, Or.inl rfl, fun j _ h => absurd h (by omega)⟩
  | a + 1, H => by
    rw [shH]
    by_cases c1 : popI (H a) < b
    · rw [if_pos c1]
      obtain ⟨i1, i2, i3, i4, i5, i6⟩ := shH_ok a (up H (a + 1) (H a))
      generalize shH b a (up H (a + 1) (H a)) = q at i1 i2 i3 i4 i5 i6
      refine ⟨by omega, fun j hj => ?_, fun j h1 h2 => ?_, fun j hj => ?_, ?_, fun j h1 h2 => ?_⟩
      · rw [i2 j hj, up_n (by omega)]
      · by_cases e : j = a + 1
        · subst e
          rw [i4 (a + 1) (by omega), up_s]
          rfl
        · rw [i3 j h1 (by omega), up_n (by omega)]
      · rw [i4 j (by omega), up_n (by omega)]
      · rcases i5 with i5 | i5
        · exact Or.inl i5
        · refine Or.inr ?_
          rw [up_n (by omega)] at i5
          exact i5
      · by_cases e : j = a
        · subst e; exact c1
        · have := i6 j h1 (by omega)
          rw [up_n (by omega)] at this
          exact this
    · rw [if_neg c1]
      exact ⟨Nat.le_refl _, fun _ _ => rfl, fun j h1 h2 => absurd h1 (by omega), fun _ _ => rfl, Or.inr c1, fun j h1 h2 => absurd h1 (by omega)⟩
/-- what the class has found when the grains before t are looked at -/
def fhV (c l : Nat) (M : Nat → Nat) (t : Nat) (ld : Nat → Nat) (p : Int64 × Nat × (Nat → Int64)) : Prop :=
  (∀ x, x < 64 → btL p.1 x = decide (x < c ∧ M x < t)) ∧
  (∀ h, h < p.2.1 → ld h < t ∧ M (ld h) = ld h ∧ l ≤ szM M c (ld h) ∧ ∀ x, x < 64 → btL (p.2.2 h) x = decide (x < c ∧ M x = ld h)) ∧
  (∀ h i, h < i → i < p.2.1 → bef (fun k => (szM M c k : Int)) (ld h) (ld i)) ∧
  (∀ k, k < t → M k = k → l ≤ szM M c k → ∃ h, h < p.2.1 ∧ ld h = k)
theorem grp_pop (hc2 : c ≤ 64) {G : Int64} {f : Nat} (h : ∀ x, x < 64 → btL G x = decide (x < c ∧ M x = f)) : popI G = nI (szM M c f) := by
  rw [popI_n]
  congr 1
  have := ctB_cut (n := c) (p := btL G) (q := fun j => decide (M j = f)) (fun j hj => by rw [h j (by omega)]; exact decide_eq_decide.mpr ⟨fun q => q.2, fun q => ⟨hj, q⟩⟩) (64 - c) (fun j a b => by rw [h j (by omega)]; exact decide_eq_false (fun q => by omega))
  rw [show c + (64 - c) = 64 by omega] at this
  exact this
theorem szM_le (M : Nat → Nat) (c f : Nat) : szM M c f ≤ c := ctB_le c
end
