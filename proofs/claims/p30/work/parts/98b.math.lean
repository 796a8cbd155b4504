/-! SUMS OF FORCES; SIZES OF HALOS; BOUND GRAINS; BITS -/
section
variable {c a b k n m t h q l G S : Nat} {F W U X : Nat → Int64} {f : Nat → Int64} {p : Nat → Nat → Int64} {B B2 : Nat → Bool} {v w : Int64} {D : Nat → Nat → Int64} {R : Nat → Option Nat} {L : Nat → Nat → Bool} {σ : Sg} {s : Nat} {R4' : R4}
theorem smA_s : smA (n + 1) f = smA n f + f n := rfl
theorem smA_z : ∀ n, smA n (fun _ => 0) = 0
  | 0 => rfl
  | n + 1 => by rw [smA_s, smA_z n]; rfl
theorem smA_add {F W : Nat → Int64} : ∀ n, smA n (fun k => F k + W k) = smA n F + smA n W
  | 0 => rfl
  | n + 1 => by
    rw [smA_s, smA_s, smA_s, smA_add n, ← Int64.add_assoc, ← Int64.add_assoc, l_arc (smA n F) (smA n W) (F n)]
theorem smA_pm (hab : a ≠ b) : ∀ n, smA n (fun k => if k = b then -v else if k = a then v else 0) = (if b < n then -v else 0) + (if a < n then v else 0)
  | 0 => rfl
  | n + 1 => by
    rw [smA_s, smA_pm hab n]
    by_cases h1 : n = b
    · subst h1
      rw [if_pos rfl, if_neg (Nat.lt_irrefl _), if_pos (Nat.lt_succ_self _), Int64.zero_add]
      by_cases h2 : a < n
      · rw [if_pos h2, if_pos (by omega), Int64.add_comm]
      · rw [if_neg h2, if_neg (by omega), Int64.zero_add, Int64.add_zero]
    · rw [if_neg h1]
      have e1 : (b < n + 1) = (b < n) := propext (by omega)
      by_cases h2 : n = a
      · subst h2
        rw [if_pos rfl, if_neg (Nat.lt_irrefl n), if_pos (Nat.lt_succ_self n), Int64.add_zero]
        simp only [e1]
      · have e2 : (a < n + 1) = (a < n) := propext (by omega)
        rw [if_neg h2, Int64.add_zero]
        simp only [e1, e2]
theorem smA_adP (hab : a < b) (hb : b < c) : smA c (adP F a b v) = smA c F := by
  have e : adP F a b v = fun k => F k + (if k = b then -v else if k = a then v else 0) := funext fun k => adP_k
  rw [e, smA_add, smA_pm (by omega), if_pos hb, if_pos (by omega), Int64.add_left_neg, Int64.add_zero]
theorem foS_z : smA c (foS p c) = 0 := by
  refine it_inv (fun _ F => smA c F = 0) (smA_z c) (fun t F ht hF => ?_)
  refine it_inv (fun _ F => smA c F = 0) hF (fun a F ha hF => ?_)
  show smA c (adP F a (t + 1) (p a (t + 1))) = 0
  rw [smA_adP (by omega) (by omega)]
  exact hF
theorem stS_m : smA c (stS G S c a R4').2.2.1 = smA c R4'.2.2.1 ∧ smA c (stS G S c a R4').2.2.2 = smA c R4'.2.2.2 := by
  refine ⟨?_, ?_⟩
  · show smA c (fun k => R4'.2.2.1 k + foS (pvX G S R4') c k) = _
    rw [smA_add, foS_z, Int64.add_zero]
  · show smA c (fun k => R4'.2.2.2 k + foS (pvY G S R4') c k) = _
    rw [smA_add, foS_z, Int64.add_zero]
theorem stN_m : ∀ t, smA c (stN G S c a R4' t).2.2.1 = smA c R4'.2.2.1 ∧ smA c (stN G S c a R4' t).2.2.2 = smA c R4'.2.2.2
  | 0 => ⟨rfl, rfl⟩
  | t + 1 => ⟨stS_m.1.trans (stN_m t).1, stS_m.2.trans (stN_m t).2⟩
theorem En_sz (hE : EnH L c l R n) : (∀ h, h < n → l ≤ szR R c h) ∧ ∀ h i, h < i → i < n → szR R c i ≤ szR R c h := by
  obtain ⟨M, ld, hm, hl, hb, -, hR⟩ := hE
  have e : ∀ h, h < n → szR R c h = szM M c (ld h) := fun h hh => ctB_cong fun j hj => decide_eq_decide.mpr ((hR j h hj).trans ⟨fun x => x.2, fun x => ⟨hh, x⟩⟩)
  refine ⟨fun h hh => by rw [e h hh]; exact (hl h hh).2.2, fun h i hi hn => ?_⟩
  rw [e h (by omega), e i hn]
  rcases hb h i hi hn with z | ⟨z, -⟩
  · have z : (szM M c (ld i) : Int) < szM M c (ld h) := z
    omega
  · have z : (szM M c (ld h) : Int) = szM M c (ld i) := z
    omega
theorem smP_z {p : Nat → Bool} : ∀ n, (∀ k, k < n → p k = false) → smP n p f = 0
  | 0, _ => rfl
  | n + 1, h => by
    show (if p n = true then smP n p f + f n else smP n p f) = 0
    rw [h n (Nat.lt_succ_self _), if_neg (by decide)]
    exact smP_z n (fun k hk => h k (by omega))
theorem lS_g {U W : Nat → Int64} : ∀ t, ((lS c D U W B t).1 = -1 ∧ (lS c D U W B t).2 = 0) ∨ ∃ k, k < t ∧ B k = true ∧ lS c D U W B t = (nI k, wS c D U W B k) ∧ 0 < wS c D U W B k
  | 0 => Or.inl ⟨rfl, rfl⟩
  | t + 1 => by
    have e : lS c D U W B (t + 1) = if (B t && decide ((lS c D U W B t).2 < wS c D U W B t)) = true then (nI t, wS c D U W B t) else lS c D U W B t := rfl
    have ih := lS_g (U := U) (W := W) t
    rw [e]
    by_cases hc : (B t && decide ((lS c D U W B t).2 < wS c D U W B t)) = true
    · rw [if_pos hc]
      simp only [Bool.and_eq_true, decide_eq_true_eq] at hc
      refine Or.inr ⟨t, Nat.lt_succ_self _, hc.1, rfl, ?_⟩
      rcases ih with ⟨-, h2⟩ | ⟨k, h1, h2, h3, h4⟩
      · rw [← h2]; exact hc.2
      · rw [h3] at hc
        exact Int64.lt_trans h4 hc.2
    · rw [if_neg hc]
      rcases ih with h | ⟨k, h1, h2⟩
      · exact Or.inl h
      · exact Or.inr ⟨k, by omega, h2⟩
theorem by1_1 : by1 v (nI 1).toInt64 = v := by
  rw [nI_ll (by decide), by1, if_neg (by decide), fdv_z (by decide) (lRs (by decide) (by decide))]
  show lZ (v.toInt / 1) = v
  rw [Int.ediv_one, lZ_of]
theorem ctB_1 (hk : k < c) (h1 : B k = true) (h2 : ∀ m, m < c → m ≠ k → B m = false) : ctB B c = 1 := by
  rw [ctB_rm h1 c, if_pos hk, ctB_z (fun j hj => by
    by_cases e : j = k
    · rw [decide_eq_true e, Bool.not_true, Bool.and_false]
    · rw [h2 j hj e, Bool.false_and])]
theorem bS_some (h : ∃ k, k < c ∧ B k = true) {U W : Nat → Int64} : ∃ k, k < c ∧ k < 2147483648 ∧ bS c D U W B k = true ∨ c ≥ 2147483648 := by
  by_cases hc : c < 2147483648
  · unfold bS
    by_cases e : (lS c D U W B c).1 = -1
    · rw [if_pos e]
      obtain ⟨k, hk, hB⟩ := h
      exact ⟨k, Or.inl ⟨hk, by omega, hB⟩⟩
    · rw [if_neg e]
      rcases lS_g (c := c) (D := D) (B := B) (U := U) (W := W) c with ⟨h1, -⟩ | ⟨k, hk, hB, e1, hp⟩
      · exact absurd h1 e
      · by_cases ho : ∃ j, j < c ∧ j ≠ k ∧ B j = true
        · obtain ⟨j, hj, hjk, hBj⟩ := ho
          refine ⟨j, Or.inl ⟨hj, by omega, ?_⟩⟩
          rw [e1]
          show up B (nI k).toNatClampNeg false j = true
          rw [nI_clamp (by omega), up_n hjk]
          exact hBj
        · exfalso
          have hz : ∀ m, m < c → m ≠ k → B m = false := fun m hm hmk => by
            cases hb : B m
            · rfl
            · exact absurd ⟨m, hm, hmk, hb⟩ ho
          have h0 : hoB c D B k = 0 := smP_z c fun m hm => by
            by_cases e : m = k
            · rw [decide_eq_true e, Bool.not_true, Bool.and_false]
            · rw [hz m hm e, Bool.false_and]
          have hcx : ∀ U : Nat → Int64, cxS c B U = U k := fun U => by
            unfold cxS
            rw [ctB_1 hk hB hz, by1_1, smP_rm (B := fun _ => false) hk rfl (fun m hm hmk => hz m hm hmk) hB, smP_z c (fun _ _ => rfl), Int64.zero_add]
          have hw0 : wS c D U W B k = 0 := by
            unfold wS abL
            rw [hcx, hcx, h0, Int64.sub_self, Int64.sub_self]
            decide
          rw [hw0] at hp
          exact absurd hp (by decide)
  · exact ⟨0, Or.inr (by omega)⟩
theorem bS_sub {U W : Nat → Int64} (h : bS c D U W B k = true) : B k = true := by
  unfold bS at h
  split at h
  · exact h
  · unfold up at h
    split at h
    · cases h
    · exact h
theorem bnd_some (hc : sN σ ≤ 64) (h0 : ∃ k, k < sN σ ∧ R k = some h) : ∀ t, ∃ k, k < sN σ ∧ bnd σ s R h t k = true
  | 0 => by
    obtain ⟨k, hk, hr⟩ := h0
    exact ⟨k, hk, decide_eq_true hr⟩
  | t + 1 => by
    obtain ⟨k, z⟩ := bS_some (D := DS (sq σ 3) (sX σ s) (sY σ s)) (U := sU σ s) (W := sW σ s) (bnd_some hc h0 t)
    rcases z with ⟨z1, -, z2⟩ | z
    · exact ⟨k, z1, z2⟩
    · omega
theorem bnd_sub : ∀ t, bnd σ s R h t k = true → R k = some h
  | 0, e => of_decide_eq_true e
  | t + 1, e => bnd_sub t (bS_sub e)
theorem ush_bv : ∀ k, k < 64 → (ushL v (nI k)).toBitVec = v.toBitVec >>> k
  | 0, _ => rfl
  | 1, _ => rfl
  | 2, _ => rfl
  | 3, _ => rfl
  | 4, _ => rfl
  | 5, _ => rfl
  | 6, _ => rfl
  | 7, _ => rfl
  | 8, _ => rfl
  | 9, _ => rfl
  | 10, _ => rfl
  | 11, _ => rfl
  | 12, _ => rfl
  | 13, _ => rfl
  | 14, _ => rfl
  | 15, _ => rfl
  | 16, _ => rfl
  | 17, _ => rfl
  | 18, _ => rfl
  | 19, _ => rfl
  | 20, _ => rfl
  | 21, _ => rfl
  | 22, _ => rfl
  | 23, _ => rfl
  | 24, _ => rfl
  | 25, _ => rfl
  | 26, _ => rfl
  | 27, _ => rfl
  | 28, _ => rfl
  | 29, _ => rfl
  | 30, _ => rfl
  | 31, _ => rfl
  | 32, _ => rfl
  | 33, _ => rfl
  | 34, _ => rfl
  | 35, _ => rfl
  | 36, _ => rfl
  | 37, _ => rfl
  | 38, _ => rfl
  | 39, _ => rfl
  | 40, _ => rfl
  | 41, _ => rfl
  | 42, _ => rfl
  | 43, _ => rfl
  | 44, _ => rfl
  | 45, _ => rfl
  | 46, _ => rfl
  | 47, _ => rfl
  | 48, _ => rfl
  | 49, _ => rfl
  | 50, _ => rfl
  | 51, _ => rfl
  | 52, _ => rfl
  | 53, _ => rfl
  | 54, _ => rfl
  | 55, _ => rfl
  | 56, _ => rfl
  | 57, _ => rfl
  | 58, _ => rfl
  | 59, _ => rfl
  | 60, _ => rfl
  | 61, _ => rfl
  | 62, _ => rfl
  | 63, _ => rfl
  | n + 64, h => absurd h (by omega)
theorem ush_1 (hk : k < 64) : ((v.toUInt64 >>> ((nI k).toInt64.toUInt64 &&& Int64.toUInt64 63)).toInt64 &&& 1 = 1) = (btL v k = true) := by
  show (ushL v (nI k) &&& 1 = 1) = _
  have e0 : btL (ushL v (nI k)) 0 = btL v k := by
    rw [bt_eq (by decide), bt_eq hk, ush_bv k hk, BitVec.getLsbD_ushiftRight, Nat.add_zero]
  have hb : ∀ x, x < 64 → btL (ushL v (nI k) &&& 1) x = (btL (ushL v (nI k)) x && decide (x = 0)) := fun x hx => by
    rw [bt_and hx, show (1 : Int64) = bitL 0 from by decide, bt_bit hx (by decide)]
  apply propext
  cases e1 : btL v k
  · refine ⟨fun h => ?_, fun h => by cases h⟩
    have := hb 0 (by decide)
    rw [h, e0, e1] at this
    exact absurd this (by decide)
  · refine ⟨fun _ => rfl, fun _ => bt_ext fun x hx => ?_⟩
    rw [hb x hx, show (1 : Int64) = bitL 0 from by decide, bt_bit hx (by decide)]
    by_cases e2 : x = 0
    · subst e2
      rw [e0, e1]
      rfl
    · rw [decide_eq_false e2, Bool.and_false]
/-- nothing is left of bits that are shifted out -/
theorem ush_0 (hc : c < 64) (h : ∀ x, x < 64 → btL v x = true → x < c) : (v.toUInt64 >>> ((nI c).toInt64.toUInt64 &&& Int64.toUInt64 63)).toInt64 = 0 := by
  show ushL v (nI c) = 0
  refine bt_ext fun x hx => ?_
  rw [bt_eq hx, ush_bv c hc, BitVec.getLsbD_ushiftRight, bt_0 hx]
  by_cases e : c + x < 64
  · rw [← bt_eq e]
    cases e1 : btL v (c + x)
    · rfl
    · exact absurd (h _ e e1) (by omega)
  · rw [BitVec.getLsbD_of_ge _ _ (by omega)]
end
