section
variable {σ : Sg} {f : Nat → Nat} {R : R4} {g : hf_G} {I I2 : hf_I} {J J2 : hf_J} {s k p c n t : Nat} {a b am ph z : Int} {i j x y : Int32} {v : Int64}
theorem RC_sg (h : RWc J (f 1) R) (hI : I 2 5 = nI (f 1)) : RCg (sgR σ f R) I J 12 := ⟨hI, h⟩
theorem RC_rw (h : RC σ I J) : RWc J (sN σ) (nowR σ) := (RC_g h).2
theorem now_ok (h : SOK σ) : R4ok (sN σ) (nowR σ) := fun k hk => h.2.1 12 k (Or.inl rfl) hk
theorem kCC {I3 : hf_I} {J3 : hf_J} (h1 : ∀ a, 270 ≤ a → I3 a = I a) (h2 : ∀ a, 270 ≤ a → J3 a = J a) : kC I I3 J J3 := fun a ha => ⟨h1 a ha, h2 a ha⟩
def unF (f : Nat → Nat) (s : Nat) : Nat → Nat := up (up (up (up f 0 s) 1 (s * s)) 2 1) 15 0
def unR (s : Nat) : R4 := ((fun k => ltN s (k / s)), (fun k => ltN s (k % s)), (fun _ => 0), (fun _ => 0))
theorem un_rng (h : Rng f) (h2 : 2 ≤ s) (h8 : s ≤ 8) : Rng (unF f s) := by
  have b1 : 2 * 2 ≤ s * s := Nat.mul_le_mul h2 h2
  have b2 : s * s ≤ 8 * 8 := Nat.mul_le_mul h8 h8
  refine ⟨fun i hi => ?_, rfl⟩
  unfold unF
  by_cases e15 : i = 15
  · subst e15; rw [up_s]; exact ⟨by decide, by decide⟩
  · rw [up_n e15]
    by_cases e2 : i = 2
    · subst e2; rw [up_s]; exact ⟨by decide, by decide⟩
    · rw [up_n e2]
      by_cases e1 : i = 1
      · subst e1; rw [up_s]; exact ⟨b1, b2⟩
      · rw [up_n e1]
        by_cases e0 : i = 0
        · subst e0; rw [up_s]; exact ⟨h2, h8⟩
        · rw [up_n e0]; exact h.1 i hi
theorem loJ_n (h : p ≠ 4 ∧ p ≠ 6 ∧ p ≠ 8 ∧ p ≠ 10) : loJ J s p = J p := by
  unfold loJ rwm2
  rw [rwm_ne h.2.2.2, rwm_ne h.2.2.1, rwm_ne h.2.1, rwm_ne h.1]
theorem loI_n (h : 14 ≤ p) : loI I s p = I p := by
  unfold loI
  rw [ku_ne (by omega), ku_ne (by omega), ku_ne (by omega), ku_ne (by omega)]
theorem lo_c (h2 : 2 ≤ s) (h8 : s ≤ 8) : RWc (loJ J s) (s * s) (unR s) := by
  intro k hk
  have b2 : s * s ≤ 8 * 8 := Nat.mul_le_mul h8 h8
  obtain ⟨l1, l2, -, -, -, -⟩ := lat_ok s (by omega) h2 k hk
  unfold loJ rwm2
  rw [rwm_ne (by decide), rwm_ne (by decide), rwm_ne (by decide), rwm_lt hk, rwm_ne (by decide), rwm_ne (by decide), rwm_lt hk, rwm_ne (by decide), rwm_lt (by omega), rwm_lt (by omega)]
  exact ⟨l1, l2, rfl, rfl⟩
theorem age_1 (hσ : SOK σ) : (nI (sq σ 2) = 1) = (sq σ 2 = 1) := by
  have h : loT 2 ≤ sq σ 2 ∧ sq σ 2 ≤ 1000 := sok_r hσ (i := 2) (by decide)
  exact z_ie (b := 1) (by omega) (by decide)
end
