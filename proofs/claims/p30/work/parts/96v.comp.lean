section
variable {L : Nat → Nat → Bool} {c k a b x : Nat} {M M2 : Nat → Nat}
theorem mkd_lt (h : mkd L c M) (hk : k < c) : M k < c := by have := (h.1 k hk).1; omega
/-- linked ones bear one mark -/
theorem mkd_ln (h : mkd L c M) (hs : ∀ a b, a < c → b < c → L a b = L b a) (ha : a < c) (hb : b < c) (hl : L a b = true) : M a = M b := by
  have h1 : ¬ M b < M a := fun q => by rw [h.2 a b ha hb q] at hl; cases hl
  have h2 : ¬ M a < M b := fun q => by rw [hs a b ha hb, h.2 b a hb ha q] at hl; cases hl
  omega
/-- connected ones bear one mark -/
theorem mkd_cn (h : mkd L c M) (hs : ∀ a b, a < c → b < c → L a b = L b a) (hc : cnx L c a b) : M a = M b := by
  have := hc (fun y => M a = M y) rfl (fun x y hx hy hxy hl => hxy.trans (mkd_ln h hs hx hy hl))
  exact this
/-- a mark bears itself -/
theorem mkd_id (h : mkd L c M) (hs : ∀ a b, a < c → b < c → L a b = L b a) (hk : k < c) : M (M k) = M k := (mkd_cn h hs (h.1 k hk).2).symm
/-- what is closed, holds k and only what bears k's mark is the group of k -/
theorem mkd_cl (h : mkd L c M) (hs : ∀ a b, a < c → b < c → L a b = L b a) (S : Nat → Prop) (hk : S k) (hMk : M k = k) (hS : ∀ x, S x → x < c ∧ M x = k) (hcl : ∀ x y, x < c → y < c → S x → L x y = true → S y) (hx : x < c) : S x ↔ M x = k := by
  constructor
  · exact fun q => (hS x q).2
  · intro e
    apply Classical.byContradiction
    intro hn
    have h1 := (h.1 x hx).2
    rw [e] at h1
    have h2 := h1 (fun y => ¬ S y) hn (fun a b ha hb hna hl hb2 => hna (hcl b a hb ha hb2 (by rw [hs b a hb ha]; exact hl)))
    exact h2 hk
end
