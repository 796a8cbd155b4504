section
variable {n n2 c l k t : Nat} {H : Nat → Int64} {v w : Int64} {X Y : Nat → Int64} {M M2 ld ld2 : Nat → Nat} {L : Nat → Nat → Bool} {R R2 : Nat → Option Nat}
theorem fhF_V (hc2 : c ≤ 64) (hl : l ≤ 64) (h : mkd (nrL X Y v) c M) (hs : ∀ a b, a < c → b < c → nrL X Y v a b = nrL X Y v b a) : ∀ t, t ≤ c → ∃ ld, fhV c l M t ld (fhF c X Y v (nI l) H t)
  | 0, _ => ⟨fun _ => 0, fun x hx => by rw [show (fhF c X Y v (nI l) H 0).1 = 0 from rfl, bt_0 hx]; exact (decide_eq_false (fun q => by omega)).symm, fun h hh => absurd hh (Nat.not_lt_zero _), fun h i _ hh => absurd hh (Nat.not_lt_zero _), fun k hk => absurd hk (Nat.not_lt_zero _)⟩
  | t + 1, ht => by
    obtain ⟨ld, hV⟩ := fhF_V hc2 hl h hs t (by omega)
    exact fhs_V hc2 hl h hs (by omega) hV
theorem enum_one {w : Nat → Int} {P : Nat → Prop} (p1 : ∀ h, h < n → P (ld h)) (s1 : ∀ h i, h < i → i < n → bef w (ld h) (ld i)) (c1 : ∀ k, P k → ∃ h, h < n ∧ ld h = k) (p2 : ∀ h, h < n2 → P (ld2 h)) (s2 : ∀ h i, h < i → i < n2 → bef w (ld2 h) (ld2 i)) (c2 : ∀ k, P k → ∃ h, h < n2 ∧ ld2 h = k) : ∀ d h, h < d → h < n → h < n2 ∧ ld h = ld2 h
  | 0, h, hd, _ => absurd hd (Nat.not_lt_zero _)
  | d + 1, h, hd, hh => by
    have ih := fun i (hi : i < h) => enum_one p1 s1 c1 p2 s2 c2 d i (by omega) (by omega)
    obtain ⟨h2, a1, a2⟩ := c2 (ld h) (p1 h hh)
    have e : h2 = h := by
      by_cases q1 : h2 < h
      · have e1 := (ih h2 q1).2
        have e2 := s1 h2 h q1 hh
        rw [e1, a2] at e2
        unfold bef at e2
        omega
      · by_cases q2 : h < h2
        · have b1 := s2 h h2 q2 a1
          obtain ⟨h3, a3, a4⟩ := c1 (ld2 h) (p2 h (by omega))
          by_cases q3 : h3 < h
          · have e1 := (ih h3 q3).2
            have e2 := s2 h3 h q3 (by omega)
            rw [← e1, a4] at e2
            unfold bef at e2
            omega
          · by_cases q4 : h3 = h
            · rw [q4] at a4
              rw [a2, a4] at b1
              unfold bef at b1
              omega
            · have b2 := s1 h h3 (by omega) a3
              rw [a4] at b2
              rw [a2] at b1
              unfold bef at b1 b2
              omega
        · omega
    subst e
    exact ⟨a1, a2.symm⟩
/-- such names are the only ones -/
theorem EnH_one (hs : ∀ a b, a < c → b < c → L a b = L b a) (h1 : EnH L c l R n) (h2 : EnH L c l R2 n2) : n = n2 ∧ ∀ j, j < c → R j = R2 j := by
  obtain ⟨M, ld, m1, a1, a2, a3, a4⟩ := h1
  obtain ⟨M2, ld2, m2, b1, b2, b3, b4⟩ := h2
  have hM : ∀ k, k < c → M k = M2 k := fun k hk => mkd_one m1 m2 hs hk
  have hS : ∀ k, szM M c k = szM M2 c k := fun k => ctB_cong fun j hj => by rw [hM j hj]
  have hw : (fun k => (szM M2 c k : Int)) = fun k => (szM M c k : Int) := funext fun k => by rw [hS k]
  rw [hw] at b2
  have P1 : ∀ h, h < n → ld h < c ∧ M (ld h) = ld h ∧ l ≤ szM M c (ld h) := a1
  have P2 : ∀ h, h < n2 → ld2 h < c ∧ M (ld2 h) = ld2 h ∧ l ≤ szM M c (ld2 h) := fun h hh => by
    obtain ⟨q1, q2, q3⟩ := b1 h hh
    exact ⟨q1, by rw [hM _ q1]; exact q2, by rw [hS]; exact q3⟩
  have C1 : ∀ k, (k < c ∧ M k = k ∧ l ≤ szM M c k) → ∃ h, h < n ∧ ld h = k := fun k q => a3 k q.1 q.2.1 q.2.2
  have C2 : ∀ k, (k < c ∧ M k = k ∧ l ≤ szM M c k) → ∃ h, h < n2 ∧ ld2 h = k := fun k q => b3 k q.1 (by rw [← hM k q.1]; exact q.2.1) (by rw [← hS]; exact q.2.2)
  have e1 := enum_one P1 a2 C1 P2 b2 C2
  have e2 := enum_one P2 b2 C2 P1 a2 C1
  have hn : n = n2 := by
    by_cases q : n < n2
    · have := (e2 (n + 1) n (by omega) q).1; omega
    · by_cases q2 : n2 < n
      · have := (e1 (n2 + 1) n2 (by omega) q2).1; omega
      · omega
  refine ⟨hn, fun j hj => ?_⟩
  have key : ∀ h, R j = some h ↔ R2 j = some h := fun h => by
    rw [a4 j h hj, b4 j h hj, hM j hj]
    constructor
    · rintro ⟨q1, q2⟩
      exact ⟨by omega, by rw [q2]; exact (e1 (h + 1) h (by omega) q1).2⟩
    · rintro ⟨q1, q2⟩
      exact ⟨by omega, by rw [q2]; exact (e2 (h + 1) h (by omega) q1).2⟩
  cases e : R j with
  | none =>
    cases e3 : R2 j with
    | none => rfl
    | some x => have := (key x).mpr e3; rw [e] at this; cases this
  | some x => exact ((key x).mp e).symm
end
