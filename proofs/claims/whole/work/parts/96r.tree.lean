/-! TREES -/
/-- sets of halos, marked from above -/
def isS (nx : Nat → Nat → Option (Nat × Nat)) (S : Nat → Nat → Bool) (m o : Nat) : Bool := match nx m o with
  | none => false
  | some (j, h) => S j h
def cnS (nx : Nat → Nat → Option (Nat × Nat)) (cn : Nat → Nat) (al : Bool) (m : Nat) (S : Nat → Nat → Bool) : Nat → Nat → Bool := fun j h => if j = m ∧ h < cn m then isS nx S m h && al else S j h
def cnZ (nx : Nat → Nat → Option (Nat × Nat)) (cn : Nat → Nat) (al : Bool) : Nat → (Nat → Nat → Bool) → Nat → Nat
  | 0, _, z => z
  | m + 1, S, z => cnZ nx cn al m (cnS nx cn al m S) (z + ctB (isS nx S m) (cn m))
section
variable {σ : Sg} {I I2 : hf_I} {J J2 : hf_J} {g : hf_G} {c k f l p n P t q e o m : Nat} {i j x y : Int32} {cn : Nat → Nat} {nx nx2 : Nat → Nat → Option (Nat × Nat)} {co co2 : Nat → Nat → Int32} {Hs : Nat → Nat → Int64} {B B0 : Nat → Int32} {S : Nat → Nat → Bool} {al : Bool} {fr : Nat → Nat → Option (Nat × Nat)}
theorem nI_m2n (h : p < 2000) : ¬ nI p = -1 := by rw [nI_iZ, show (-1 : Int32) = iZ (-1) from rfl, iZ_eq (iRs (by omega) (by omega)) (iRs (by omega) (by omega))]; omega
theorem it_m1 {F : Nat → Nat → Int32} : ∀ (n : Nat) (v : Int32), it n (v, (-1 : Int32)) (fun _ (q : Int32 × Int32) => if q.2 = -1 then q else (q.1 + 1, F (q.2.toNatClampNeg / 100) (q.2.toNatClampNeg % 100))) = (v, -1)
  | 0, v => rfl
  | n + 1, v => by rw [it_s, it_m1 n v]; rfl
theorem ch_eq {F : Nat → Nat → Int32} (hF : ∀ e o, e < P → o < cn e → F e o = cdI (fr e o)) (hf : ∀ e o j x, e < P → o < cn e → fr e o = some (j, x) → j < e ∧ x < cn j) (hP : P ≤ 12) (hcn : ∀ e, e < P → cn e ≤ 64) : ∀ (n e o : Nat) (v : Int32), e < n → e < P → o < cn e → (it n (v, nI (100 * e + o)) (fun _ (q : Int32 × Int32) => if q.2 = -1 then q else (q.1 + 1, F (q.2.toNatClampNeg / 100) (q.2.toNatClampNeg % 100)))).1 = v + nI (chN fr n e o)
  | 0, _, _, _, h, _, _ => by omega
  | n + 1, e, o, v, h, he, ho => by
    have hc := hcn e he
    rw [it_sh]
    dsimp only
    rw [if_neg (nI_m2n (show 100 * e + o < 2000 by omega)), z_cl (show 100 * e + o < 2147483648 by omega), show (100 * e + o) / 100 = e by omega, show (100 * e + o) % 100 = o by omega, hF e o he ho]
    cases h2 : fr e o with
    | none =>
      show (it n (v + 1, (-1 : Int32)) _).1 = v + nI (chN fr (n + 1) e o)
      rw [it_m1 n]
      unfold chN
      rw [h2]
      rfl
    | some w =>
      obtain ⟨a, b⟩ := w
      obtain ⟨h3, h4⟩ := hf e o a b he ho h2
      have ih := ch_eq hF hf hP hcn n a b (v + 1) (by omega) (by omega) h4
      show (it n (v + 1, nI (100 * a + b)) _).1 = v + nI (chN fr (n + 1) e o)
      rw [ih]
      have e1 : chN fr (n + 1) e o = 1 + chN fr n a b := by rw [chN, h2]
      rw [e1, ← nI_add, Int32.add_assoc]
      rfl
theorem ch_fuel (hf : ∀ e o j x, fr e o = some (j, x) → j < e) : ∀ (n m e o : Nat), e < n → e < m → chN fr n e o = chN fr m e o
  | 0, _, _, _, h, _ => by omega
  | n + 1, 0, _, _, _, h => by omega
  | n + 1, m + 1, e, o, h1, h2 => by
    rw [chN, chN]
    cases h3 : fr e o with
    | none => rfl
    | some w =>
      obtain ⟨a, b⟩ := w
      have := hf e o a b h3
      dsimp only
      rw [ch_fuel hf n m a b (by omega) (by omega)]
theorem ct_g (hn : ∀ o j h, nx m o = some (j, h) → m < j ∧ h < 64) {z : Int32} (hc : cn m ≤ 64) : ∀ t, t ≤ cn m → ctI nx al m (B0, z) t = ((fun j => if 64 * m ≤ j ∧ j < 64 * m + t then bI (isB nx B0 m (j - 64 * m) && al) else B0 j), z + nI (ctB (isB nx B0 m) t))
  | 0, _ => by
    show (B0, z) = _
    rw [show ctB (isB nx B0 m) 0 = 0 from rfl, show nI 0 = 0 from rfl, Int32.add_zero]
    congr 1
    funext j
    rw [if_neg (by omega)]
  | t + 1, ht => by
    have ih := ct_g hn (z := z) hc t (by omega)
    have e1 : ctI nx al m (B0, z) (t + 1) = (up (ctI nx al m (B0, z) t).1 (64 * m + t) (bI (isB nx (ctI nx al m (B0, z) t).1 m t && al)), (ctI nx al m (B0, z) t).2 + bI (isB nx (ctI nx al m (B0, z) t).1 m t)) := rfl
    rw [e1, ih]
    dsimp only
    have e2 : isB nx (fun j => if 64 * m ≤ j ∧ j < 64 * m + t then bI (isB nx B0 m (j - 64 * m) && al) else B0 j) m t = isB nx B0 m t := by
      rw [isB, isB]
      cases h2 : nx m t with
      | none => rfl
      | some w =>
        obtain ⟨a, b⟩ := w
        have := hn t a b h2
        dsimp only
        rw [if_neg (by omega)]
    rw [e2, ctB_s]
    congr 1
    · funext j
      by_cases c1 : j = 64 * m + t
      · rw [c1, up_s, if_pos (by omega), show 64 * m + t - 64 * m = t by omega]
      · rw [up_n c1]
        by_cases c2 : 64 * m ≤ j ∧ j < 64 * m + t
        · rw [if_pos c2, if_pos (by omega)]
        · rw [if_neg c2, if_neg (by omega)]
    · rw [Int32.add_assoc]
      congr 1
      cases isB nx B0 m t
      · rw [if_neg (by decide)]
        exact Int32.add_zero _
      · rw [if_pos rfl, ← nI_add]
        rfl
theorem cn_m (hn : ∀ m o j h, m < p → o < cn m → nx m o = some (j, h) → m < j ∧ j < 12 ∧ h < 64) (hn2 : ∀ m o, m < p → cn m ≤ o → nx m o = none) (hc : ∀ m, m < p → cn m ≤ 64) : ∀ (m : Nat), m ≤ p → m ≤ 12 → ∀ (B : Nat → Int32) (S : Nat → Nat → Bool) (z : Nat), (∀ j h, j < 12 → h < 64 → decide (¬ B (64 * j + h) = 0) = S j h) → cnF nx cn al m (B, nI z) = nI (cnZ nx cn al m S z)
  | 0, _, _, _, _, _, _ => rfl
  | m + 1, hm, hm2, B, S, z, h => by
    have hnm : ∀ o j h, nx m o = some (j, h) → m < j ∧ h < 64 := fun o j h hh => by
      by_cases c1 : o < cn m
      · have := hn m o j h (by omega) c1 hh; omega
      · rw [hn2 m o (by omega) (by omega)] at hh; cases hh
    have hB : ∀ o, isB nx B m o = isS nx S m o := fun o => by
      rw [isB, isS]
      cases h2 : nx m o with
      | none => rfl
      | some w =>
        obtain ⟨a, b⟩ := w
        by_cases c1 : o < cn m
        · have := hn m o a b (by omega) c1 h2
          exact h a b this.2.1 this.2.2
        · rw [hn2 m o (by omega) (by omega)] at h2; cases h2
    have hB2 : isB nx B m = isS nx S m := funext hB
    rw [cnF, ct_g hnm (hc m (by omega)) (cn m) (Nat.le_refl _), nI_add, hB2, cnZ]
    refine cn_m hn hn2 hc m (by omega) (by omega) _ _ _ fun j h2 hj hh => ?_
    have hcm := hc m (by omega)
    unfold cnS
    by_cases c1 : j = m ∧ h2 < cn m
    · obtain ⟨rfl, c2⟩ := c1
      rw [if_pos (by omega), if_pos ⟨rfl, c2⟩, show 64 * j + h2 - 64 * j = h2 by omega]
      cases (isS nx S j h2 && al) <;> rfl
    · rw [if_neg (by omega), if_neg c1]
      exact h j h2 hj hh
end
