/-! TOOLS: numbers, rows, loops -/
theorem z_ii {a b : Nat} (ha : a < 2147483648) (hb : b < 2147483648) : (nI a ≤ nI b) = (a ≤ b) := propext (nI_leI ha hb)
theorem z_il {a b : Nat} (ha : a < 2147483648) (hb : b < 2147483648) : (nI a < nI b) = (a < b) := propext (nI_ltI ha hb)
theorem z_ie {a b : Nat} (ha : a < 2147483648) (hb : b < 2147483648) : (nI a = nI b) = (a = b) := propext (nI_eq ha hb)
theorem z_i0 {a : Nat} (ha : a < 2147483648) : (nI a < 0) = False := by
  rw [show (0 : Int32) = nI 0 from rfl, z_il ha (by decide)]
  simp
theorem z_0i {a : Nat} (ha : a < 2147483648) : (0 ≤ nI a) = True := by
  rw [show (0 : Int32) = nI 0 from rfl, z_ii (by decide) ha]
  simp
theorem z_in {a n : Nat} (ha : a < 2147483648) : hf_in (nI a) n = decide (a < n) := by
  simp [hf_in, nI_clamp ha, z_i0 ha]
theorem z_cl {a : Nat} (ha : a < 2147483648) : (nI a).toNatClampNeg = a := nI_clamp ha
theorem z_1 (a : Nat) : nI a + 1 = nI (a + 1) := nI_1 a
theorem z_lgl (x y : Int64) : (lg_cmp x y < 0) = (x < y) := by
  unfold lg_cmp
  apply propext
  simp only [gt_iff_lt, Int64.lt_iff_toInt_lt, ← Int64.toInt_inj]
  split
  · simp; omega
  · split
    · simp; omega
    · simp; omega
theorem z_lgg (x y : Int64) : (0 < lg_cmp x y) = (y < x) := by
  unfold lg_cmp
  apply propext
  simp only [gt_iff_lt, Int64.lt_iff_toInt_lt, ← Int64.toInt_inj]
  split
  · simp; omega
  · split
    · simp; omega
    · simp; omega
theorem z_lge (x y : Int64) : (0 ≤ lg_cmp x y) = (y ≤ x) := propext (lg_cmp_ge x y)
theorem z_lgle (x y : Int64) : (lg_cmp x y ≤ 0) = (x ≤ y) := by
  unfold lg_cmp
  apply propext
  simp only [gt_iff_lt, Int64.lt_iff_toInt_lt, Int64.le_iff_toInt_le, ← Int64.toInt_inj]
  split
  · simp; omega
  · split
    · simp; omega
    · simp; omega
theorem z_lgz (x y : Int64) : (lg_cmp x y = 0) = (x = y) := by
  unfold lg_cmp
  apply propext
  simp only [gt_iff_lt, Int64.lt_iff_toInt_lt, ← Int64.toInt_inj]
  split
  · simp; omega
  · split
    · simp; omega
    · simp; omega
/-- a loop that counts up to n: what is asked at its head is the same at the next turn -/
theorem hf_it {β : Type} (q : Nat → β) (n : Nat) (h : ∀ k, k < n → q k = q (k + 1)) : q 0 = q n := by
  induction n with
  | zero => rfl
  | succ n ih => exact (ih fun k hk => h k (by omega)).trans (h n (by omega))
theorem hf_itx {α β : Type} (Inv : Nat → α → Prop) (q : Nat → α → β) (n : Nat) (h : ∀ k x, k < n → Inv k x → ∃ y, Inv (k + 1) y ∧ q k x = q (k + 1) y) (x : α) (h0 : Inv 0 x) : ∃ y, Inv n y ∧ q 0 x = q n y := by
  induction n with
  | zero => exact ⟨x, h0, rfl⟩
  | succ n ih =>
    obtain ⟨y, h1, h2⟩ := ih fun k x hk => h k x (by omega)
    obtain ⟨z, h3, h4⟩ := h n y (by omega) h1
    exact ⟨z, h3, h2.trans h4⟩
section
variable {α : Type} {f : Nat → Nat → α} {a b i j : Nat} {v w : α} {r q : Nat → α}
theorem ku_same : hf_u f a i v a i = v := by simp [hf_u]
theorem ku_row : hf_u f a i v a = fun j => if j = i then v else f a j := by funext j; simp [hf_u]
theorem ku_ne (h : b ≠ a) : hf_u f a i v b = f b := hf_u_ne h
theorem kw_row : hf_w f a r a = r := hf_w_eq
theorem kw_ne (h : b ≠ a) : hf_w f a r b = f b := hf_w_ne h
theorem ku_as_w : hf_u f a i v = hf_w f a (fun j => if j = i then v else f a j) := by
  funext b j
  by_cases h : b = a
  · subst h; simp [hf_u, hf_w]
  · simp [hf_u, hf_w, h]
theorem kw_w : hf_w (hf_w f a r) a q = hf_w f a q := by
  funext b j
  by_cases h : b = a <;> simp [hf_w, h]
theorem kw_self : hf_w f a (f a) = f := by
  funext b j
  by_cases h : b = a
  · subst h; simp [hf_w]
  · simp [hf_w, h]
theorem kw_id (h : r = f a) : hf_w f a r = f := by rw [h, kw_self]
theorem kw_cong (h : r = q) : hf_w f a r = hf_w f a q := by rw [h]
end
theorem k_th {g : hf_G} : hf_k (hf_th g) = hf_k g := rfl
theorem r_th {g : hf_G} : hf_r (hf_th g) = hf_r g := rfl
