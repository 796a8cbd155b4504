/-! two and four rows told anew together -/
def rwm2 {α : Type} (J : Nat → Nat → α) (a b c : Nat) (f h : Nat → α) : Nat → Nat → α := rwm (rwm J a c f) b c h
def rwm4 {α : Type} (J : Nat → Nat → α) (a b c d k : Nat) (fa fb fc fd : Nat → α) : Nat → Nat → α := rwm2 (rwm2 J a b k fa fb) c d k fc fd
section
variable {α : Type} {J : Nat → Nat → α} {a b c d x k : Nat} {v w u z : α} {f h fa fb fc fd : Nat → α}
theorem r2_0 : rwm2 J a b 0 f h = J := by rw [rwm2, rwm_0, rwm_0]
theorem r2_a (hab : a ≠ b) : rwm2 J a b k f h a k = J a k := by rw [rwm2, rwm_ne hab, rwm_k]
theorem r2_b (hab : b ≠ a) : rwm2 J a b k f h b k = J b k := by rw [rwm2, rwm_k, rwm_ne hab]
theorem r2_n (h1 : x ≠ a) (h2 : x ≠ b) : rwm2 J a b k f h x = J x := by rw [rwm2, rwm_ne h2, rwm_ne h1]
theorem r2_s (hab : a ≠ b) (hv : v = f k) (hw : w = h k) : hf_u (hf_u (rwm2 J a b k f h) a k v) b k w = rwm2 J a b (k + 1) f h := by
  rw [rwm2, ku_rwm hab.symm, rwm_s hv, rwm_s hw, rwm2]
theorem r4_0 : rwm4 J a b c d 0 fa fb fc fd = J := by rw [rwm4, r2_0, r2_0]
theorem r4_a (h1 : a ≠ b) (h2 : a ≠ c) (h3 : a ≠ d) : rwm4 J a b c d k fa fb fc fd a k = J a k := by rw [rwm4, r2_n h2 h3, r2_a h1]
theorem r4_b (h1 : b ≠ a) (h2 : b ≠ c) (h3 : b ≠ d) : rwm4 J a b c d k fa fb fc fd b k = J b k := by rw [rwm4, r2_n h2 h3, r2_b h1]
theorem r4_c (h1 : c ≠ a) (h2 : c ≠ b) (h3 : c ≠ d) : rwm4 J a b c d k fa fb fc fd c k = J c k := by rw [rwm4, r2_a h3, r2_n h1 h2]
theorem r4_d (h1 : d ≠ a) (h2 : d ≠ b) (h3 : d ≠ c) : rwm4 J a b c d k fa fb fc fd d k = J d k := by rw [rwm4, r2_b h3, r2_n h1 h2]
theorem ku_r2 {m : Nat} (h1 : x ≠ a) (h2 : x ≠ b) : hf_u (rwm2 J a b c f h) x m v = rwm2 (hf_u J x m v) a b c f h := by
  rw [rwm2, ku_rwm (Ne.symm h2), ku_rwm (Ne.symm h1), rwm2]
theorem r4_s (hab : a ≠ b) (hac : a ≠ c) (had : a ≠ d) (hbc : b ≠ c) (hbd : b ≠ d) (hcd : c ≠ d) (hv : v = fa k) (hw : w = fb k) (hu : u = fc k) (hz : z = fd k) : hf_u (hf_u (hf_u (hf_u (rwm4 J a b c d k fa fb fc fd) a k v) b k w) c k u) d k z = rwm4 J a b c d (k + 1) fa fb fc fd := by
  rw [rwm4, ku_r2 hac had, ku_r2 hbc hbd, r2_s hab hv hw, r2_s hcd hu hz, rwm4]
end
section
variable {g : hf_G} {r q n k : Nat} {I : hf_I} {J : hf_J} {v : Int64}
theorem c_fil (h : Rw g r n) : hf_rn 73 0 [some (.ref r), some (.long v), none, none] [] g I J = some (.inl none, g, I, rwm J (r + 1) n (fun _ => v)) := c_fill h
theorem c_cpy (h : Rw g r n) (hq : Rw g q n) (hn : q ≠ r) : hf_rn 74 0 [some (.ref r), some (.ref q), none] [] g I J = some (.inl none, g, I, rwm J (r + 1) n (J (q + 1))) := c_copy h hq hn
theorem ku_ix {α : Type} {f : Nat → Nat → α} {a i j : Nat} {v : α} (h : j ≠ i) : hf_u f a i v a j = f a j := by simp [hf_u, h]
theorem nI_mul (a b : Nat) : nI a * nI b = nI (a * b) := by
  rw [nI_iZ, nI_iZ, nI_iZ, iZ_mul]
  congr 1
end
