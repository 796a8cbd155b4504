section
variable {c l k t z n : Nat} {M ld : Nat → Nat} {F B H O : Nat → Int32} {p : Nat × (Nat → Int32)}
def hzV (c : Nat) (M : Nat → Nat) (O : Nat → Int32) (z k : Nat) (ld : Nat → Nat) (p : Nat × (Nat → Int32)) : Prop :=
  (∀ h, h < p.1 → ld h < c ∧ (z < szM M c (ld h) ∨ szM M c (ld h) = z ∧ ld h < k)) ∧ (∀ h i, h < i → i < p.1 → bef (fun k => (szM M c k : Int)) (ld h) (ld i)) ∧
  (∀ x, x < c → (z < szM M c x ∨ szM M c x = z ∧ x < k) → ∃ h, h < p.1 ∧ ld h = x) ∧
  (∀ j h, j < c → h < p.1 → M j = ld h → p.2 (768 + j) = nI h) ∧ (∀ j, j < c → (∀ h, h < p.1 → ¬ M j = ld h) → p.2 (768 + j) = -1) ∧ ∀ j, j < 768 → p.2 j = O j
theorem hs_V (hc2 : c ≤ 64) (hM : ∀ j, j < c → M j < c) (hF : ∀ j, j < c → F j = nI (M j)) (hB : ∀ x, x < c → B x = nI (szM M c x)) (hz : z ≤ 64) {ld0 : Nat → Nat} (h0 : hzV c M O z 0 ld0 p) : ∀ k, k ≤ c → ∃ ld, hzV c M O z k ld (hsM c F B (nI z) p k)
  | 0, _ => ⟨ld0, h0⟩
  | k + 1, hk => by
    obtain ⟨ld, i1, i2, i3, i4, i5, i6⟩ := hs_V hc2 hM hF hB hz h0 k (by omega)
    have e : hsM c F B (nI z) p (k + 1) = if B k = nI z then ((hsM c F B (nI z) p k).1 + 1, nm2 c F (nI k) (nI (hsM c F B (nI z) p k).1) (hsM c F B (nI z) p k).2) else hsM c F B (nI z) p k := rfl
    rw [e, hB k (by omega)]
    generalize hsM c F B (nI z) p k = q at i1 i2 i3 i4 i5 i6
    obtain ⟨n, G⟩ := q
    dsimp only at i1 i2 i3 i4 i5 i6 ⊢
    have hsz := szM_le M c k
    have hq : (nI (szM M c k) = nI z) = (szM M c k = z) := z_ie (by omega) (by omega)
    by_cases c1 : szM M c k = z
    · rw [if_pos (hq.mpr c1)]
      have hnk : ∀ h, h < n → ¬ ld h = k := fun h hh e => by
        have := (i1 h hh).2
        rw [e] at this
        omega
      have hg : ∀ j, j < c → (nm2 c F (nI k) (nI n) G (768 + j) = if M j = k then nI n else G (768 + j)) := fun j hj => by
        have h1 := hM j hj
        have hq2 : (nI (M j) = nI k) = (M j = k) := z_ie (by omega) (by omega)
        unfold nm2
        rw [Nat.add_sub_cancel_left, hF j hj]
        by_cases c2 : M j = k
        · rw [if_pos c2, if_pos ⟨by omega, by omega, hq2.mpr c2⟩]
        · rw [if_neg c2, if_neg (fun q => c2 (hq2.mp q.2.2))]
      refine ⟨up ld n k, fun h hh => ?_, fun h i hh hi => ?_, fun x hx q => ?_, fun j h hj hh q => ?_, fun j hj q => ?_, fun j hj => ?_⟩
      · dsimp only at hh
        by_cases e : h = n
        · rw [e, up_s]; exact ⟨by omega, by omega⟩
        · rw [up_n e]
          obtain ⟨a1, a2⟩ := i1 h (by omega)
          exact ⟨a1, by omega⟩
      · dsimp only at hi
        by_cases e : i = n
        · rw [e, up_s, up_n (by omega)]
          have := (i1 h (by omega)).2
          unfold bef
          dsimp only
          omega
        · rw [up_n e, up_n (by omega)]
          exact i2 h i hh (by omega)
      · dsimp only
        by_cases e : x = k
        · exact ⟨n, by omega, by rw [up_s, e]⟩
        · obtain ⟨h, a1, a2⟩ := i3 x hx (by omega)
          exact ⟨h, by omega, by rw [up_n (by omega)]; exact a2⟩
      · dsimp only at hh ⊢
        rw [hg j hj]
        by_cases e : h = n
        · rw [e, up_s] at q
          rw [if_pos q, e]
        · rw [up_n e] at q
          rw [if_neg (fun q2 => hnk h (by omega) (q.symm.trans q2))]
          exact i4 j h hj (by omega) q
      · dsimp only at q ⊢
        rw [hg j hj]
        have h1 := q n (by omega)
        rw [up_s] at h1
        rw [if_neg h1]
        refine i5 j hj fun h hh => ?_
        have := q h (by omega)
        rw [up_n (by omega)] at this
        exact this
      · dsimp only
        unfold nm2
        rw [if_neg (by omega)]
        exact i6 j hj
    · rw [if_neg (fun q => c1 (hq.mp q))]
      refine ⟨ld, fun h hh => ?_, i2, fun x hx q => ?_, i4, i5, i6⟩
      · obtain ⟨a1, a2⟩ := i1 h hh
        exact ⟨a1, by omega⟩
      · have : ¬ x = k ∨ z < szM M c x := by
          by_cases e : x = k
          · subst e; omega
          · exact Or.inl e
        exact i3 x hx (by omega)
end
