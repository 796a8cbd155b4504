/-! the first c places of a row are told anew -/
def rwm {α : Type} (J : Nat → Nat → α) (a c : Nat) (f : Nat → α) : Nat → Nat → α := hf_w J a (fun j => if j < c then f j else J a j)
section
variable {α : Type} {J : Nat → Nat → α} {a b c k j : Nat} {v : α} {f h : Nat → α}
theorem rwm_0 : rwm J a 0 f = J := kw_id (by funext j; simp)
theorem rwm_lt (hk : k < c) : rwm J a c f a k = f k := by simp [rwm, hf_w, hk]
theorem rwm_ge (hk : ¬ k < c) : rwm J a c f a k = J a k := by simp [rwm, hf_w, hk]
theorem rwm_k : rwm J a k f a k = J a k := rwm_ge (Nat.lt_irrefl k)
theorem rwm_if : rwm J a c f a k = if k < c then f k else J a k := by simp [rwm, hf_w]
theorem rwm_ne (hb : b ≠ a) : rwm J a c f b = J b := kw_ne hb
theorem rwm_s (hv : v = f k) : hf_u (rwm J a k f) a k v = rwm J a (k + 1) f := by
  subst hv
  rw [ku_as_w]
  unfold rwm
  rw [kw_w, kw_row]
  apply kw_cong
  funext j
  by_cases e : j = k
  · subst e; simp
  · by_cases c : j < k
    · simp [e, c, show j < k + 1 by omega]
    · simp [e, c, show ¬ j < k + 1 by omega]
theorem ku_comm {i m : Nat} {u w : α} (hab : a ≠ b) : hf_u (hf_u J a i u) b m w = hf_u (hf_u J b m w) a i u := by
  funext x y
  by_cases h1 : x = a
  · subst h1; simp [hf_u, hab]
  · simp [hf_u, h1]
theorem ku_rwm {m : Nat} {w : α} (hab : a ≠ b) : hf_u (rwm J a c f) b m w = rwm (hf_u J b m w) a c f := by
  funext x y
  by_cases h1 : x = a
  · subst h1; simp [hf_u, rwm, hf_w, hab]
  · simp [hf_u, rwm, hf_w, h1]
theorem rwm_cong (hf : ∀ k, k < c → f k = h k) : rwm J a c f = rwm J a c h := by
  apply kw_cong
  funext j
  by_cases e : j < c
  · rw [if_pos e, if_pos e, hf j e]
  · rw [if_neg e, if_neg e]
theorem rwm_u (hk : k < c) : rwm J a c (fun j => if j = k then v else J a j) = hf_u J a k v := by
  rw [ku_as_w]
  apply kw_cong
  funext j
  by_cases e : j < c
  · rw [if_pos e]
  · rw [if_neg e, if_neg (by omega)]
end
