section
variable {n n2 c l k t : Nat} {H : Nat → Int64} {v w : Int64} {X Y : Nat → Int64} {M M2 ld ld2 : Nat → Nat} {L : Nat → Nat → Bool} {R R2 : Nat → Option Nat}
theorem fhF_V (hc2 : c ≤ 64) (hl : l ≤ 64) (h : mkd (nrL X Y v) c M) (hs : ∀ a b, a < c → b < c → nrL X Y v a b = nrL X Y v b a) : ∀ t, t ≤ c → ∃ ld, fhV c l M t ld (fhF c X Y v (nI l) H t)
  | 0, _ => ⟨fun _ => 0, fun x hx => by rw [show (fhF c X Y v (nI l) H 0).1 = 0 from rfl, bt_0 hx]; exact (decide_eq_false (fun q => by omega)).symm, fun h hh => absurd hh (Nat.not_lt_zero _), fun h i _ hh => absurd hh (Nat.not_lt_zero _), fun k hk => absurd hk (Nat.not_lt_zero _)⟩
  | t + 1, ht => by
    obtain ⟨ld, hV⟩ := fhF_V hc2 hl h hs t (by omega)
    exact fhs_V hc2 hl h hs (by omega) hV
theorem enum_one {w : Nat → Int} {P : Nat → Prop} (p1 : ∀ h, h < n → P (ld h)) (s1 : ∀ h i, h < i → i < n → bef w (ld h) (ld i)) (c1 : ∀ k, P k → ∃ h, h < n ∧ ld h = k) (p2 : ∀ h, h < n2 → P (ld2 h)) (s2 : ∀ h i, h < i → i < n2 → bef w (ld2 h) (ld2 i)) (c2 : ∀ k, P k → ∃ h, h < n2 ∧ ld2 h = k) : ∀ d h, h < d → h < n → h < n2 ∧ ld h = ld2 h
  | 0, h, hd, _ => absurd hd (Nat.not_lt_zero _)
  | d + 1, h, hd, hh => by
    have ih := fun i (hi : i < h) => enum_one p1 s1 c1 p2 s2 c2 d i (by omega) (by omega)
    obtain ⟨h2, a1, a2⟩ := c2 (ld h) (p1 h hh)
    have e : h2 = h := by
      by_cases q1 : h2 < h
      · have e1 := (ih h2 q1).2
        have e2 := s1 h2 h q1 hh
        rw [e1, a2] at e2
        unfold bef at e2
        omega
      · by_cases q2 : h < h2
        · have b1 := s2 h h2 q2 a1
          obtain ⟨h3, a3, a4⟩ := c1 (ld2 h) (p2 h (by omega))
          by_cases q3 : h3 < h
          · have e1 := (ih h3 q3).2
            have e2 := s2 h3 h q3 (by omega)
            rw [← e1, a4] at e2
            unfold bef at e2
            omega
          · by_cases q4 : h3 = h
            · rw [q4] at a4
              rw [a2, a4] at b1
              unfold bef at b1
              omega
            · have b2 := s1 h h3 (by omega) a3
              rw [a4] at b2
              rw [a2] at b1
              unfold bef at b1 b2
              omega
        · omega
    subst e
    exact ⟨a1, a2.symm⟩
end
