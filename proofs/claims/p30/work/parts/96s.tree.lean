section
variable {σ : Sg} {I I2 : hf_I} {J J2 : hf_J} {g : hf_G} {c k f l p n P t q e o m z : Nat} {i j x y : Int32} {cn : Nat → Nat} {nx nx2 : Nat → Nat → Option (Nat × Nat)} {R : Nat → Int64} {S : Nat → Nat → Bool} {al : Bool} {A B : Nat → Option Nat} {H : Nat → Nat → Option Nat}
theorem nxZ_2 {a b : Nat} (h : nxZ H P c p k = some (a, b)) : a ≤ p + 2 := by
  unfold nxZ at h
  by_cases c1 : p + 1 < P
  · rw [if_pos c1] at h
    cases e : goZ (H p) (H (p + 1)) k c with
    | some f => rw [e] at h; cases h; omega
    | none =>
      rw [e] at h
      dsimp only at h
      by_cases c2 : p + 2 < P
      · rw [if_pos c2] at h
        cases e2 : goZ (H p) (H (p + 2)) k c with
        | some f => rw [e2] at h; cases h; omega
        | none => rw [e2] at h; cases h
      · rw [if_neg c2] at h; cases h
  · rw [if_neg c1] at h; cases h
theorem ctB_cong {p q : Nat → Bool} (h : ∀ j, j < n → p j = q j) : ctB p n = ctB q n := it_cong fun j s hj => by rw [h j hj]
theorem ts_c (hn : ∀ m o j h, m < p → o < cn m → nx m o = some (j, h) → m < j ∧ j < 12 ∧ h < 64) (hc : ∀ m, m < p → cn m ≤ 64) : ∀ (m : Nat), m ≤ p → ∀ (R : Nat → Int64) (S : Nat → Nat → Bool) (z : Nat), (∀ j h, m ≤ j → j < 12 → h < 64 → btL (R j) h = S j h) → (∀ j h, j < m → S j h = false) → (tsR cn nx m R (nI z)).2 = nI (cnZ nx cn true m S z)
  | 0, _, _, _, _, _, _ => rfl
  | m + 1, hm, R, S, z, h, h0 => by
    have hcm := hc m (by omega)
    have hL : ∀ o, o < cn m → ldP nx R m o = isS nx S m o := fun o ho => by
      rw [ldP, isS]
      cases h2 : nx m o with
      | none => rfl
      | some w =>
        obtain ⟨a, b⟩ := w
        have := hn m o a b (by omega) ho h2
        exact h a b (by omega) this.2.1 this.2.2
    have hb : ∀ u, u < 64 → btL (orL (cn m) (ldP nx R m)) u = (decide (u < cn m) && isS nx S m u) := fun u hu => by
      rw [bt_orL hcm hu]
      by_cases c1 : u < cn m
      · rw [hL u c1]
      · rw [decide_eq_false c1, Bool.false_and, Bool.false_and]
    have hp : popI (orL (cn m) (ldP nx R m)) = nI (ctB (isS nx S m) (cn m)) := by
      rw [popI_n]
      congr 1
      have := ctB_cut (n := cn m) (p := btL (orL (cn m) (ldP nx R m))) (q := isS nx S m) (fun j hj => by rw [hb j (by omega), decide_eq_true hj, Bool.true_and]) (64 - cn m) (fun j h1 h2 => by rw [hb j (by omega), decide_eq_false (by omega), Bool.false_and])
      rw [show cn m + (64 - cn m) = 64 by omega] at this
      exact this
    rw [tsR, hp, nI_add, cnZ]
    refine ts_c hn hc m (by omega) _ _ _ (fun j u hj hj2 hu => ?_) (fun j u hj => ?_)
    · unfold cnS
      by_cases c1 : j = m
      · subst c1
        rw [up_s, hb u hu]
        by_cases c2 : u < cn j
        · rw [if_pos ⟨rfl, c2⟩, decide_eq_true c2, Bool.true_and, Bool.and_true]
        · rw [if_neg (fun q => c2 q.2), decide_eq_false c2, Bool.false_and, h0 j u (by omega)]
      · rw [up_n c1, if_neg (fun q => c1 q.1)]
        exact h j u (by omega) hj2 hu
    · unfold cnS
      rw [if_neg (by omega)]
      exact h0 j u (by omega)
def oneS (p k : Nat) : Nat → Nat → Bool := fun j h => decide (j = p ∧ h = k)
theorem isS_one : isS nx (oneS p k) m o = decide (nx m o = some (p, k)) := by
  rw [isS]
  cases h2 : nx m o with
  | none => exact (decide_eq_false (fun q => by cases q)).symm
  | some w =>
    obtain ⟨a, b⟩ := w
    unfold oneS
    exact decide_eq_decide.mpr ⟨fun q => by rw [q.1, q.2], fun q => by cases q; exact ⟨rfl, rfl⟩⟩
theorem cnS_one (hm : m < p) : cnS nx cn false m (oneS p k) = oneS p k := by
  funext j h
  unfold cnS oneS
  by_cases c1 : j = m ∧ h < cn m
  · rw [if_pos c1, Bool.and_false, decide_eq_false (by omega)]
  · rw [if_neg c1]
theorem cnZ_s1 (hm : m < p) : cnZ nx cn false (m + 1) (oneS p k) z = cnZ nx cn false m (oneS p k) (z + ctB (fun o => decide (nx m o = some (p, k))) (cn m)) := by
  rw [cnZ, cnS_one hm, ctB_cong (fun o _ => isS_one)]
theorem ctB_z {p : Nat → Bool} (h : ∀ j, j < n → p j = false) : ctB p n = 0 := by
  induction n with
  | zero => rfl
  | succ n ih => rw [ctB_s, h n (by omega), if_neg (by decide), ih (fun j hj => h j (by omega))]
theorem cnZ_0 : ∀ m, m ≤ p → (∀ m2 o, m2 < m → nx m2 o ≠ some (p, k)) → cnZ nx cn false m (oneS p k) z = z
  | 0, _, _ => rfl
  | m + 1, hm, h => by
    rw [cnZ_s1 (by omega), ctB_z (fun o _ => decide_eq_false (h m o (by omega)))]
    exact cnZ_0 m (by omega) (fun m2 o h2 => h m2 o (by omega))
theorem hm_z {u : Int} (hu : u = e) : ∀ t, hmZ nx p k u (nI z) t = nI (z + ctB (fun o => decide (nx e o = some (p, k))) t)
  | 0 => rfl
  | t + 1 => by
    subst hu
    have ih := hm_z (rfl : (e : Int) = e) t
    have e1 : hmZ nx p k (e : Int) (nI z) (t + 1) = if nx (e : Int).toNat t = some (p, k) then hmZ nx p k (e : Int) (nI z) t + 1 else hmZ nx p k (e : Int) (nI z) t := rfl
    rw [e1, ih, Int.toNat_natCast, ctB_s]
    by_cases c1 : nx e t = some (p, k)
    · rw [if_pos c1, if_pos (decide_eq_true c1), show (1 : Int32) = nI 1 from rfl, nI_add]
      rfl
    · rw [if_neg c1, if_neg (fun q => c1 (of_decide_eq_true q))]
theorem hm_c (hp : p < n) (h : ∀ m o a b, nx m o = some (a, b) → a ≤ m + 2) : hmA n cn nx p k = nI (cnZ nx cn false p (oneS p k) 0) := by
  unfold hmA
  by_cases h1 : 1 ≤ p
  · have z1 : ctZ n cn ((p : Int) - 1) = cn (p - 1) := by
      unfold ctZ
      rw [if_pos (by omega), show ((p : Int) - 1).toNat = p - 1 by omega]
    have e1 : hmZ nx p k ((p : Int) - 1) 0 (cn (p - 1)) = nI (0 + ctB (fun o => decide (nx (p - 1) o = some (p, k))) (cn (p - 1))) := hm_z (z := 0) (show (p : Int) - 1 = ((p - 1 : Nat) : Int) by omega) _
    have s1 : cnZ nx cn false p (oneS p k) 0 = cnZ nx cn false (p - 1) (oneS p k) (0 + ctB (fun o => decide (nx (p - 1) o = some (p, k))) (cn (p - 1))) := by
      have := cnZ_s1 (nx := nx) (cn := cn) (k := k) (z := 0) (show p - 1 < p by omega)
      rw [show p - 1 + 1 = p by omega] at this
      exact this
    rw [z1, e1, s1]
    by_cases h2 : 2 ≤ p
    · have z2 : ctZ n cn ((p : Int) - 2) = cn (p - 2) := by
        unfold ctZ
        rw [if_pos (by omega), show ((p : Int) - 2).toNat = p - 2 by omega]
      have s2 : ∀ z, cnZ nx cn false (p - 1) (oneS p k) z = cnZ nx cn false (p - 2) (oneS p k) (z + ctB (fun o => decide (nx (p - 2) o = some (p, k))) (cn (p - 2))) := fun z => by
        have := cnZ_s1 (nx := nx) (cn := cn) (k := k) (z := z) (show p - 2 < p by omega)
        rw [show p - 2 + 1 = p - 1 by omega] at this
        exact this
      rw [z2, hm_z (show (p : Int) - 2 = ((p - 2 : Nat) : Int) by omega), s2, cnZ_0 (p - 2) (by omega) (fun m2 o h3 q => by have := h m2 o p k q; omega)]
    · have z2 : ctZ n cn ((p : Int) - 2) = 0 := by
        unfold ctZ
        rw [if_neg (by omega)]
      rw [z2, show p - 1 = 0 by omega]
      rfl
  · have z1 : ctZ n cn ((p : Int) - 1) = 0 := by
      unfold ctZ
      rw [if_neg (by omega)]
    have z2 : ctZ n cn ((p : Int) - 2) = 0 := by
      unfold ctZ
      rw [if_neg (by omega)]
    rw [z1, z2, show p = 0 by omega]
    rfl
end
