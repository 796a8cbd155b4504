section
variable {α : Type} {A : Nat → Nat → α → α}
def inP (A : Nat → Nat → α → α) (c lo : Nat) (s : α) : α := it (c - (lo + 1)) s fun t s => A lo (lo + (1 + t)) s
def lpA (A : Nat → Nat → α → α) (c d : Nat) (s : α) : α := it d s fun lo s => inP A c lo s
def lpB (A : Nat → Nat → α → α) (c : Nat) (s : α) : α := it (c - 1) s fun t s => it (t + 1) s fun a s => A a (t + 1) s
theorem col_in (h : ∀ a b a2 b2 s, A a b (A a2 b2 s) = A a2 b2 (A a b s)) {a c lo : Nat} : ∀ (n : Nat) (s : α), it n (A a c s) (fun t s => A lo (lo + (1 + t)) s) = A a c (it n s fun t s => A lo (lo + (1 + t)) s)
  | 0, s => rfl
  | n + 1, s => by
    rw [it_s, it_s, col_in h n s]
    exact h _ _ _ _ _
theorem col_it (h : ∀ a b a2 b2 s, A a b (A a2 b2 s) = A a2 b2 (A a b s)) {c lo : Nat} (n : Nat) : ∀ (d : Nat) (s : α), it n (it d s fun a s => A a c s) (fun t s => A lo (lo + (1 + t)) s) = it d (it n s fun t s => A lo (lo + (1 + t)) s) fun a s => A a c s
  | 0, s => rfl
  | d + 1, s => by
    rw [it_s, it_s, col_in h, col_it h n d s]
theorem lpA_s (h : ∀ a b a2 b2 s, A a b (A a2 b2 s) = A a2 b2 (A a b s)) {c : Nat} {s : α} : ∀ d, d ≤ c → lpA A (c + 1) d s = it d (lpA A c d s) fun a s => A a c s
  | 0, _ => rfl
  | d + 1, hd => by
    have ih := lpA_s h (c := c) (s := s) d (by omega)
    unfold lpA at ih ⊢
    rw [it_s, it_s, ih, it_s]
    unfold inP
    rw [show c + 1 - (d + 1) = (c - (d + 1)) + 1 by omega, it_s, show d + (1 + (c - (d + 1))) = c by omega, col_it h]
theorem lp_eq (h : ∀ a b a2 b2 s, A a b (A a2 b2 s) = A a2 b2 (A a b s)) {s : α} : ∀ c, lpA A c c s = lpB A c s
  | 0 => rfl
  | 1 => rfl
  | c + 2 => by
    have ih := lp_eq h (s := s) (c + 1)
    have e : lpA A (c + 2) (c + 2) s = lpA A (c + 2) (c + 1) s := by
      unfold lpA
      rw [it_s]
      unfold inP
      rw [Nat.sub_self]
      rfl
    rw [e, lpA_s h (c + 1) (Nat.le_refl _), ih]
    rfl
end
section
variable {σ : Sg} {R : R4} {g : hf_G} {I I2 : hf_I} {J J2 : hf_J} {s k c a b : Nat} {i j x y : Int32}
/-- how far a and b are -/
def qZ (X Y : Nat → Nat) (a b : Nat) : Int := sqZ (wyZ (X a) (X b)) (wyZ (Y a) (Y b))
def farN (X Y : Nat → Nat) (a b : Nat) : Nat := rtN (iZ (qZ X Y a b)) 13
theorem qZ_n {X Y : Nat → Nat} : ∃ q : Nat, qZ X Y a b = q ∧ q ≤ 8388608 := by
  have h1 := wyZ_rng (a := (X a : Int)) (b := (X b : Int))
  have h2 := wyZ_rng (a := (Y a : Int)) (b := (Y b : Int))
  have := sqZ_rng (x := wyZ (X a) (X b)) (y := wyZ (Y a) (Y b)) ⟨by omega, by omega⟩ ⟨by omega, by omega⟩
  unfold qZ
  exact ⟨(sqZ (wyZ (X a) (X b)) (wyZ (Y a) (Y b))).toNat, by omega, by omega⟩
theorem far_le {X Y : Nat → Nat} : farN X Y a b ≤ 2896 := by
  obtain ⟨q, h1, h2⟩ := qZ_n (X := X) (Y := Y) (a := a) (b := b)
  unfold farN
  rw [h1]
  exact (rt_eq h2).2
theorem way_c (h : RWc J c R) (hR : R4ok c R) (ha : a < c) (hb : b < c) : wayL (J 4 a) (J 4 b) = lZ (wyZ (R.1 a) (R.1 b)) ∧ wayL (J 6 a) (J 6 b) = lZ (wyZ (R.2.1 a) (R.2.1 b)) := by
  obtain ⟨h1, h2, -, -⟩ := h a ha
  obtain ⟨h3, h4, -, -⟩ := h b hb
  obtain ⟨r1, r2⟩ := hR a ha
  obtain ⟨r3, r4⟩ := hR b hb
  rw [h1, h2, h3, h4]
  exact ⟨wayL_z ⟨by omega, by omega⟩ ⟨by omega, by omega⟩, wayL_z ⟨by omega, by omega⟩ ⟨by omega, by omega⟩⟩
theorem far_c (h : RWc J c R) (hR : R4ok c R) (ha : a < c) (hb : b < c) : farL (J 4) (J 6) a b = lZ (farN R.1 R.2.1 a b) := by
  obtain ⟨w1, w2⟩ := way_c h hR ha hb
  obtain ⟨q, h1, h2⟩ := qZ_n (X := R.1) (Y := R.2.1) (a := a) (b := b)
  unfold farL farN
  rw [w1, w2, sqL_z]
  show rtL (lZ (qZ R.1 R.2.1 a b)) 12 = _
  rw [h1]
  exact (rt_eq h2).1
def cnA (p : Nat → Nat → Bool) (a b : Nat) (z : Int32) : Int32 := if p a b = true then z + 1 else z
theorem cnA_c {p : Nat → Nat → Bool} : ∀ a b a2 b2 z, cnA p a b (cnA p a2 b2 z) = cnA p a2 b2 (cnA p a b z) := by
  intro a b a2 b2 z
  unfold cnA
  by_cases h1 : p a b = true
  · by_cases h2 : p a2 b2 = true
    · rw [if_pos h1, if_pos h2, if_pos h2, if_pos h1]
    · rw [if_pos h1, if_neg h2, if_neg h2, if_pos h1]
  · by_cases h2 : p a2 b2 = true
    · rw [if_neg h1, if_pos h2, if_pos h2, if_neg h1]
    · rw [if_neg h1, if_neg h2, if_neg h2, if_neg h1]
def prB (R : R4) (i j : Int32) (a b : Nat) : Bool := decide (i ≤ nI (farN R.1 R.2.1 a b)) && decide (nI (farN R.1 R.2.1 a b) < j)
theorem prB_c (hk : k ≤ 2896) : decide (i.toInt64 ≤ lZ (k : Nat) ∧ lZ (k : Nat) < j.toInt64) = (decide (i ≤ nI k) && decide (nI k < j)) := by
  have r1 := iR_of i
  have r2 := iR_of j
  have e1 : (i.toInt64 ≤ lZ (k : Nat)) = (i ≤ nI k) := by
    rw [i64_z, lZ_le ⟨by have := r1.1; omega, by have := r1.2; omega⟩ (lRs (by omega) (by omega)), Int32.le_iff_toInt_le, nI_toInt (by omega)]
  have e2 : (lZ (k : Nat) < j.toInt64) = (nI k < j) := by
    rw [i64_z, lZ_lt (lRs (by omega) (by omega)) ⟨by have := r2.1; omega, by have := r2.2; omega⟩, Int32.lt_iff_toInt_lt, nI_toInt (by omega)]
  simp only [e1, e2, Bool.decide_and]
end
