section
variable {c l k t z n : Nat} {M ld : Nat → Nat} {F B H O : Nat → Int32} {p : Nat × (Nat → Int32)} {L : Nat → Nat → Bool}
theorem sz_pos : ∀ n, 0 < ctB (fun j => decide (M j = k)) n → ∃ j, j < n ∧ M j = k
  | 0, h => absurd h (Nat.lt_irrefl _)
  | n + 1, h => by
    by_cases c1 : M n = k
    · exact ⟨n, by omega, c1⟩
    · rw [ctB_s, if_neg (fun q => c1 (of_decide_eq_true q))] at h
      obtain ⟨j, h1, h2⟩ := sz_pos n h
      exact ⟨j, by omega, h2⟩
end
