section
variable {b : Int32} {n c l k t : Nat} {H : Nat → Int64} {v w : Int64} {X Y : Nat → Int64} {M ld : Nat → Nat}
theorem fhs_V (hc2 : c ≤ 64) (hl : l ≤ 64) (h : mkd (nrL X Y v) c M) (hs : ∀ a b, a < c → b < c → nrL X Y v a b = nrL X Y v b a) (hk : k < c) {p : Int64 × Nat × (Nat → Int64)} (hV : fhV c l M k ld p) : ∃ ld2, fhV c l M (k + 1) ld2 (fhs c X Y v (nI l) k p) := by
  obtain ⟨s, n, H⟩ := p
  obtain ⟨i1, i2, i3, i4⟩ := hV
  dsimp only at i1 i2 i3 i4
  unfold fhs
  dsimp only
  have hMk := (h.1 k hk).1
  by_cases c1 : btL s k = true
  · rw [if_pos c1]
    rw [i1 k (by omega), decide_eq_true_eq] at c1
    have hne : ∀ x, x < c → ¬ M x = k := fun x hx e => by
      have := mkd_id h hs hx
      rw [e] at this
      omega
    refine ⟨ld, fun x hx => ?_, fun j hj => ?_, i3, fun j hj hj2 hj3 => ?_⟩
    · rw [i1 x hx]
      refine decide_eq_decide.mpr ⟨fun q => ⟨q.1, by omega⟩, fun q => ⟨q.1, ?_⟩⟩
      have := hne x q.1
      omega
    · obtain ⟨a1, a2, a3, a4⟩ := i2 j hj
      exact ⟨by omega, a2, a3, a4⟩
    · have : ¬ j = k := fun e => by subst e; omega
      exact i4 j (by omega) hj2 hj3
  · rw [if_neg c1]
    have hM : M k = k := by
      rw [i1 k (by omega), decide_eq_true_eq] at c1
      omega
    have hg := grp_ok hc2 h hs hk hM
    have hp := grp_pop hc2 hg
    have hsz := szM_le M c k
    have hs1 : ∀ x, x < 64 → btL (s ||| grpL c X Y v k) x = decide (x < c ∧ M x < k + 1) := fun x hx => by
      rw [bt_or hx, i1 x hx, hg x hx, ← Bool.decide_or]
      refine decide_eq_decide.mpr ⟨fun q => ?_, fun q => ?_⟩
      · omega
      · omega
    rw [hp]
    have hq : (nI l ≤ nI (szM M c k)) = (l ≤ szM M c k) := z_ii (by omega) (by omega)
    by_cases c2 : l ≤ szM M c k
    · rw [if_pos (hq.mpr c2)]
      unfold insH
      rw [hp]
      obtain ⟨j1, j2, j3, j4, j5, j6⟩ := shH_ok (b := nI (szM M c k)) n H
      generalize shH (nI (szM M c k)) n H = r at j1 j2 j3 j4 j5 j6
      obtain ⟨pos, H2⟩ := r
      dsimp only at j1 j2 j3 j4 j5 j6 ⊢
      have hlt : ∀ j, j < n → (popI (H j) < nI (szM M c k)) = (szM M c (ld j) < szM M c k) := fun j hj => by
        have := szM_le M c (ld j)
        rw [grp_pop hc2 (i2 j hj).2.2.2]
        exact z_il (by omega) (by omega)
      have hmono : ∀ j i, j ≤ i → i < n → szM M c (ld i) ≤ szM M c (ld j) := fun j i h1 h2 => by
        by_cases e : j = i
        · subst e; exact Nat.le_refl _
        · have := i3 j i (by omega) h2
          unfold bef at this
          dsimp only at this
          omega
      refine ⟨fun j => if j < pos then ld j else if j = pos then k else ld (j - 1), hs1, fun j hj => ?_, fun a i ha hi => ?_, fun j hj hj2 hj3 => ?_⟩
      · dsimp only at hj ⊢
        by_cases e1 : j < pos
        · obtain ⟨a1, a2, a3, a4⟩ := i2 j (by omega)
          simp only [if_pos e1]
          rw [up_n (by omega), j2 j e1]
          exact ⟨by omega, a2, a3, a4⟩
        · by_cases e2 : j = pos
          · simp only [if_neg e1, if_pos e2]
            rw [e2, up_s]
            exact ⟨by omega, hM, c2, hg⟩
          · obtain ⟨a1, a2, a3, a4⟩ := i2 (j - 1) (by omega)
            simp only [if_neg e1, if_neg e2]
            rw [up_n e2, j3 j (by omega) (by omega)]
            exact ⟨by omega, a2, a3, a4⟩
      · dsimp only at hi ⊢
        unfold bef
        dsimp only
        have i3' : ∀ a i, a < i → i < n → (szM M c (ld i) : Int) < (szM M c (ld a) : Int) ∨ (szM M c (ld a) : Int) = (szM M c (ld i) : Int) ∧ ld a < ld i := fun a i h1 h2 => by
          have := i3 a i h1 h2
          unfold bef at this
          dsimp only at this
          omega
        have hbig : ∀ a, a < pos → szM M c k ≤ szM M c (ld a) := fun a h1 => by
          have hm := hmono a (pos - 1) (by omega) (by omega)
          have : ¬ szM M c (ld (pos - 1)) < szM M c k := fun q => by
            rcases j5 with j5 | j5
            · omega
            · exact j5 ((hlt (pos - 1) (by omega)).mpr q)
          omega
        have hsm : ∀ a, pos ≤ a → a < n → szM M c (ld a) < szM M c k := fun a h1 h2 => (hlt a h2).mp (j6 a h1 h2)
        by_cases e1 : i < pos
        · have := i3' a i ha (by omega)
          rw [if_pos e1, if_pos (by omega)]
          omega
        · by_cases e2 : i = pos
          · have h1 := hbig a (by omega)
            have h2 := (i2 a (by omega)).1
            rw [if_neg e1, if_pos e2, if_pos (by omega)]
            omega
          · rw [if_neg e1, if_neg e2]
            by_cases e3 : a < pos
            · have := i3' a (i - 1) (by omega) (by omega)
              rw [if_pos e3]
              omega
            · by_cases e4 : a = pos
              · have h1 := hsm (i - 1) (by omega) (by omega)
                rw [if_neg e3, if_pos e4]
                omega
              · have := i3' (a - 1) (i - 1) (by omega) (by omega)
                rw [if_neg e3, if_neg e4]
                omega
      · by_cases e : j = k
        · subst e
          exact ⟨pos, by dsimp only; omega, by dsimp only; rw [if_neg (by omega), if_pos rfl]⟩
        · obtain ⟨a, a1, a2⟩ := i4 j (by omega) hj2 hj3
          by_cases e1 : a < pos
          · exact ⟨a, by dsimp only; omega, by dsimp only; rw [if_pos e1, a2]⟩
          · exact ⟨a + 1, by dsimp only; omega, by dsimp only; rw [if_neg (by omega), if_neg (by omega), Nat.add_sub_cancel, a2]⟩
    · rw [if_neg (fun q => c2 (hq.mp q))]
      refine ⟨ld, hs1, fun j hj => ?_, i3, fun j hj hj2 hj3 => ?_⟩
      · obtain ⟨a1, a2, a3, a4⟩ := i2 j hj
        exact ⟨by omega, a2, a3, a4⟩
      · have : ¬ j = k := fun e => by subst e; omega
        exact i4 j (by omega) hj2 hj3
end
