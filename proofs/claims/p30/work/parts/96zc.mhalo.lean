section
variable {c l k t z n : Nat} {M ld : Nat → Nat} {F B H O : Nat → Int32} {p : Nat × (Nat → Int32)} {L : Nat → Nat → Bool}
theorem hz_V (hc2 : c ≤ 64) (hM : ∀ j, j < c → M j < c) (hF : ∀ j, j < c → F j = nI (M j)) (hB : ∀ x, x < c → B x = nI (szM M c x)) : ∀ t, t ≤ c → ∃ ld, hzV c M O (c - t) 0 ld (hzM c F B (nwR O c (fun _ => -1)) t)
  | 0, _ => by
    refine ⟨fun _ => 0, fun h hh => absurd hh (Nat.not_lt_zero _), fun h i _ hi => absurd hi (Nat.not_lt_zero _), fun x hx q => ?_, fun j h hj hh _ => absurd hh (Nat.not_lt_zero _), fun j hj _ => ?_, fun j hj => ?_⟩
    · have := szM_le M c x
      omega
    · show nwR O c (fun _ => -1) (768 + j) = -1
      exact nwR_at hj
    · show nwR O c (fun _ => -1) j = O j
      exact nwR_b hj
  | t + 1, ht => by
    obtain ⟨ld0, h0⟩ := hz_V hc2 hM hF hB t (by omega)
    obtain ⟨ld, i1, i2, i3, i4, i5, i6⟩ := hs_V hc2 hM hF hB (show c - t ≤ 64 by omega) h0 c (Nat.le_refl _)
    refine ⟨ld, fun h hh => ?_, i2, fun x hx q => i3 x hx (by omega), i4, i5, i6⟩
    obtain ⟨a1, a2⟩ := i1 h hh
    exact ⟨a1, by omega⟩
theorem sz_pos : ∀ n, 0 < ctB (fun j => decide (M j = k)) n → ∃ j, j < n ∧ M j = k
  | 0, h => absurd h (Nat.lt_irrefl _)
  | n + 1, h => by
    by_cases c1 : M n = k
    · exact ⟨n, by omega, c1⟩
    · rw [ctB_s, if_neg (fun q => c1 (of_decide_eq_true q))] at h
      obtain ⟨j, h1, h2⟩ := sz_pos n h
      exact ⟨j, by omega, h2⟩
/-- what the model finds names the groups -/
theorem hz_En (hc2 : c ≤ 64) (h : mkd L c M) (hs : ∀ a b, a < c → b < c → L a b = L b a) (hl1 : 1 ≤ l) (hF : ∀ j, j < c → F j = nI (M j)) (hB : ∀ x, x < c → B x = nI (szM M c x)) : ∃ R, EnH L c l R (hzM c F B (nwR O c (fun _ => -1)) (c + 1 - l)).1 ∧ (∀ j, j < c → (hzM c F B (nwR O c (fun _ => -1)) (c + 1 - l)).2 (768 + j) = coM (R j)) ∧ (∀ j, j < 768 → (hzM c F B (nwR O c (fun _ => -1)) (c + 1 - l)).2 j = O j) ∧ (hzM c F B (nwR O c (fun _ => -1)) (c + 1 - l)).1 ≤ 64 := by
  obtain ⟨ld, i1, i2, i3, i4, i5, i6⟩ := hz_V (M := M) hc2 (fun j hj => mkd_lt h hj) hF hB (O := O) (c + 1 - l) (by omega)
  generalize hzM c F B (nwR O c (fun _ => -1)) (c + 1 - l) = p at i1 i2 i3 i4 i5 i6
  obtain ⟨n, G⟩ := p
  dsimp only at i1 i2 i3 i4 i5 i6 ⊢
  have hin : ∀ h i, h < n → i < n → ld h = ld i → h = i := fun a b ha hb e => by
    by_cases q1 : a < b
    · have := i2 a b q1 hb; rw [e] at this; unfold bef at this; omega
    · by_cases q2 : b < a
      · have := i2 b a q2 ha; rw [e] at this; unfold bef at this; omega
      · omega
  have hn : n ≤ 64 := by
    have key : ∀ m, m ≤ n → m ≤ ctB (fun x => (List.range m).any fun h => decide (ld h = x)) c := by
      intro m
      induction m with
      | zero => intro _; exact Nat.zero_le _
      | succ m ih =>
        intro hm
        have i := ih (by omega)
        have := ctB_lt (p := fun x => (List.range m).any fun h => decide (ld h = x)) (q := fun x => (List.range (m + 1)).any fun h => decide (ld h = x)) (m := ld m) (fun x hx => by
          rw [List.any_eq_true] at hx ⊢
          obtain ⟨y, y1, y2⟩ := hx
          exact ⟨y, List.mem_range.mpr (by have := List.mem_range.mp y1; omega), y2⟩) (by
          rw [List.any_eq_false]
          intro y hy q
          have hy2 := List.mem_range.mp hy
          have := hin y m (by omega) (by omega) (of_decide_eq_true q)
          omega) (by
          rw [List.any_eq_true]
          exact ⟨m, List.mem_range.mpr (by omega), decide_eq_true rfl⟩) c
        rw [if_pos (i1 m (by omega)).1] at this
        omega
    have a := key n (Nat.le_refl _)
    have b := ctB_le (p := fun x => (List.range n).any fun h => decide (ld h = x)) c
    omega
  refine ⟨fun j => if G (768 + j) = -1 then none else some (G (768 + j)).toNatClampNeg, ⟨M, ld, h, fun a ha => ?_, i2, fun x hx hx2 hx3 => i3 x hx (Or.inl (by have h9 : l ≤ szM M c x := hx3; omega)), fun j a hj => ?_⟩, fun j hj => ?_, i6, hn⟩
  · obtain ⟨a1, a2⟩ := i1 a ha
    have hsz := szM_le M c (ld a)
    obtain ⟨j, j1, j2⟩ := sz_pos (M := M) (k := ld a) c (show 0 < szM M c (ld a) by omega)
    exact ⟨a1, by rw [← j2]; exact mkd_id h hs j1, by omega⟩
  · dsimp only
    by_cases q : ∃ b, b < n ∧ M j = ld b
    · obtain ⟨b, b1, b2⟩ := q
      have e := i4 j b hj b1 b2
      obtain ⟨n1, n2⟩ := coM_n (show b < 64 by omega)
      rw [e, if_neg n1, n2]
      constructor
      · intro x; cases x; exact ⟨b1, b2⟩
      · rintro ⟨x1, x2⟩
        rw [hin b a b1 x1 (b2.symm.trans x2)]
    · have e := i5 j hj (fun b hb hb2 => q ⟨b, hb, hb2⟩)
      rw [if_pos e]
      constructor
      · intro x; cases x
      · rintro ⟨x1, x2⟩
        exact absurd ⟨a, x1, x2⟩ q
  · dsimp only
    by_cases q : ∃ b, b < n ∧ M j = ld b
    · obtain ⟨b, b1, b2⟩ := q
      have e := i4 j b hj b1 b2
      obtain ⟨n1, n2⟩ := coM_n (show b < 64 by omega)
      rw [e, if_neg n1, n2]
      rfl
    · have e := i5 j hj (fun b hb hb2 => q ⟨b, hb, hb2⟩)
      rw [if_pos e, e]
      rfl
end
