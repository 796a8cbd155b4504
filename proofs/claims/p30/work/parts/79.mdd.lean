/-- what comes from one earlier picture -/
def mfM (nx : Nat → Nat → Option (Nat × Nat)) (co : Nat → Nat → Int32) (i k e : Nat) (p : Option (Nat × Nat) × Int32) (t : Nat) : Option (Nat × Nat) × Int32 :=
  it t p fun o p => if (if nx e o = some (i, k) then co e o else 0) ≤ p.2 then p else (some (e, o), if nx e o = some (i, k) then co e o else 0)
def frM (cn : Nat → Nat) (nx : Nat → Nat → Option (Nat × Nat)) (co : Nat → Nat → Int32) (i k : Nat) : Option (Nat × Nat) :=
  if 1 ≤ i then (if 2 ≤ i then (mfM nx co i k (i - 2) (mfM nx co i k (i - 1) (none, 0) (cn (i - 1))) (cn (i - 2))).1 else (mfM nx co i k (i - 1) (none, 0) (cn (i - 1))).1) else none
theorem mfM_k {cn : Nat → Nat} {nx : Nat → Nat → Option (Nat × Nat)} {co : Nat → Nat → Int32} {i k e : Nat} (p : Option (Nat × Nat) × Int32) : ∀ t, t ≤ cn e → (mfM nx co i k e p t).1 = p.1 ∨ ∃ o, o < cn e ∧ (mfM nx co i k e p t).1 = some (e, o) := by
  intro t
  induction t with
  | zero => intro _; exact Or.inl rfl
  | succ t ih =>
    intro ht
    have hs : mfM nx co i k e p (t + 1) = if (if nx e t = some (i, k) then co e t else 0) ≤ (mfM nx co i k e p t).2 then mfM nx co i k e p t else (some (e, t), if nx e t = some (i, k) then co e t else 0) := rfl
    rw [hs]
    generalize (if nx e t = some (i, k) then co e t else 0) = z
    split
    · exact ih (by omega)
    · exact Or.inr ⟨t, by omega, rfl⟩
theorem frM_k {cn : Nat → Nat} {nx : Nat → Nat → Option (Nat × Nat)} {co : Nat → Nat → Int32} {i k j x : Nat} (h : frM cn nx co i k = some (j, x)) : j < i ∧ x < cn j := by
  unfold frM at h
  split at h
  · split at h
    · rcases @mfM_k cn nx co i k (i - 2) (mfM nx co i k (i - 1) (none, 0) (cn (i - 1))) _ (Nat.le_refl _) with h1 | ⟨o, h1, h2⟩
      · rw [h1] at h
        rcases @mfM_k cn nx co i k (i - 1) (none, 0) _ (Nat.le_refl _) with h3 | ⟨o, h3, h4⟩
        · rw [h3] at h; cases h
        · rw [h4] at h; cases h; exact ⟨by omega, h3⟩
      · rw [h2] at h; cases h; exact ⟨by omega, h1⟩
    · rcases @mfM_k cn nx co i k (i - 1) (none, 0) _ (Nat.le_refl _) with h3 | ⟨o, h3, h4⟩
      · rw [h3] at h; cases h
      · rw [h4] at h; cases h; exact ⟨by omega, h3⟩
  · cases h
/-- how long a branch is -/
def chN (fr : Nat → Nat → Option (Nat × Nat)) : Nat → Nat → Nat → Nat
  | 0, _, _ => 0
  | n + 1, e, o => match fr e o with
    | none => 1
    | some (j, x) => 1 + chN fr n j x
section
variable {g : hf_G} {I : hf_I} {J : hf_J} {a b c k l m n s p q cl P : Nat} {u v w : Int64} {i j x y : Int32} {F H K B : Nat → Int32} {cn : Nat → Nat}
end
