/-! GROUPS -/
section
variable {L : Nat → Nat → Bool} {c k a b x : Nat} {M M2 : Nat → Nat}
theorem mkd_lt (h : mkd L c M) (hk : k < c) : M k < c := by have := (h.1 k hk).1; omega
/-- linked ones bear one mark -/
theorem mkd_ln (h : mkd L c M) (hs : ∀ a b, a < c → b < c → L a b = L b a) (ha : a < c) (hb : b < c) (hl : L a b = true) : M a = M b := by
  have h1 : ¬ M b < M a := fun q => by rw [h.2 a b ha hb q] at hl; cases hl
  have h2 : ¬ M a < M b := fun q => by rw [hs a b ha hb, h.2 b a hb ha q] at hl; cases hl
  omega
/-- connected ones bear one mark -/
theorem mkd_cn (h : mkd L c M) (hs : ∀ a b, a < c → b < c → L a b = L b a) (hc : cnx L c a b) : M a = M b := by
  have := hc (fun y => M a = M y) rfl (fun x y hx hy hxy hl => hxy.trans (mkd_ln h hs hx hy hl))
  exact this
/-- a mark bears itself -/
theorem mkd_id (h : mkd L c M) (hs : ∀ a b, a < c → b < c → L a b = L b a) (hk : k < c) : M (M k) = M k := (mkd_cn h hs (h.1 k hk).2).symm
/-- the marks are told by the links -/
theorem mkd_one (h : mkd L c M) (h2 : mkd L c M2) (hs : ∀ a b, a < c → b < c → L a b = L b a) (hk : k < c) : M k = M2 k := by
  have e1 := mkd_cn h2 hs (h.1 k hk).2
  have e2 := mkd_cn h hs (h2.1 k hk).2
  have l1 := (h2.1 (M k) (mkd_lt h hk)).1
  have l2 := (h.1 (M2 k) (mkd_lt h2 hk)).1
  omega
/-- what is closed, holds k and only what bears k's mark is the group of k -/
theorem mkd_cl (h : mkd L c M) (hs : ∀ a b, a < c → b < c → L a b = L b a) (S : Nat → Prop) (hk : S k) (hMk : M k = k) (hS : ∀ x, S x → x < c ∧ M x = k) (hcl : ∀ x y, x < c → y < c → S x → L x y = true → S y) (hx : x < c) : S x ↔ M x = k := by
  constructor
  · exact fun q => (hS x q).2
  · intro e
    apply Classical.byContradiction
    intro hn
    have h1 := (h.1 x hx).2
    rw [e] at h1
    have h2 := h1 (fun y => ¬ S y) hn (fun a b ha hb hna hl hb2 => hna (hcl b a hb ha hb2 (by rw [hs b a hb ha]; exact hl)))
    exact h2 hk
/-- a set that grows in n steps within c places, and that stands still once it does not grow -/
theorem grow_fix (S : Nat → Nat → Bool) (hm : ∀ t j, S t j = true → S (t + 1) j = true) (hf : ∀ t, (∀ j, j < c → S (t + 1) j = S t j) → ∀ j, j < c → S (t + 2) j = S (t + 1) j) : ∀ t, (∀ j, j < c → S (t + 1) j = S t j) ∨ t + 1 ≤ ctB (S (t + 1)) c
  | 0 => by
    by_cases q : ∀ j, j < c → S 1 j = S 0 j
    · exact Or.inl q
    · refine Or.inr ?_
      obtain ⟨j, hj⟩ : ∃ j, j < c ∧ S 1 j = true := by
        apply Classical.byContradiction
        intro hn
        refine q fun j hj => ?_
        cases e1 : S 1 j
        · cases e0 : S 0 j
          · rfl
          · rw [hm 0 j e0] at e1; cases e1
        · exact absurd ⟨j, hj, e1⟩ hn
      exact ctB_pos hj.2 c hj.1
  | t + 1 => by
    rcases grow_fix S hm hf t with q | q
    · exact Or.inl (hf t q)
    · by_cases q2 : ∀ j, j < c → S (t + 2) j = S (t + 1) j
      · exact Or.inl q2
      · refine Or.inr ?_
        obtain ⟨j, hj, h1, h2⟩ : ∃ j, j < c ∧ S (t + 1) j = false ∧ S (t + 2) j = true := by
          apply Classical.byContradiction
          intro hn
          refine q2 fun j hj => ?_
          cases e1 : S (t + 2) j
          · cases e0 : S (t + 1) j
            · rfl
            · rw [hm (t + 1) j e0] at e1; cases e1
          · cases e0 : S (t + 1) j
            · exact absurd ⟨j, hj, e0, e1⟩ hn
            · rfl
        have : ctB (S (t + 1)) c + (if j < c then 1 else 0) ≤ ctB (S (t + 2)) c := ctB_lt (fun x hx => hm (t + 1) x hx) h1 h2 c
        rw [if_pos hj] at this
        show t + 1 + 1 ≤ ctB (S (t + 2)) c
        omega
end
