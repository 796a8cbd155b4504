/-! PAIRS -/
section
variable {α : Type} {A : Nat → Nat → α → α}
def inP (A : Nat → Nat → α → α) (c lo : Nat) (s : α) : α := it (c - (lo + 1)) s fun t s => A lo (lo + (1 + t)) s
def lpA (A : Nat → Nat → α → α) (c d : Nat) (s : α) : α := it d s fun lo s => inP A c lo s
def lpB (A : Nat → Nat → α → α) (c : Nat) (s : α) : α := it (c - 1) s fun t s => it (t + 1) s fun a s => A a (t + 1) s
theorem col_in (h : ∀ a b a2 b2 s, A a b (A a2 b2 s) = A a2 b2 (A a b s)) {a c lo : Nat} : ∀ (n : Nat) (s : α), it n (A a c s) (fun t s => A lo (lo + (1 + t)) s) = A a c (it n s fun t s => A lo (lo + (1 + t)) s)
  | 0, s => rfl
  | n + 1, s => by
    rw [it_s, it_s, col_in h n s]
    exact h _ _ _ _ _
theorem col_it (h : ∀ a b a2 b2 s, A a b (A a2 b2 s) = A a2 b2 (A a b s)) {c lo : Nat} (n : Nat) : ∀ (d : Nat) (s : α), it n (it d s fun a s => A a c s) (fun t s => A lo (lo + (1 + t)) s) = it d (it n s fun t s => A lo (lo + (1 + t)) s) fun a s => A a c s
  | 0, s => rfl
  | d + 1, s => by
    rw [it_s, it_s, col_in h, col_it h n d s]
theorem lpA_s (h : ∀ a b a2 b2 s, A a b (A a2 b2 s) = A a2 b2 (A a b s)) {c : Nat} {s : α} : ∀ d, d ≤ c → lpA A (c + 1) d s = it d (lpA A c d s) fun a s => A a c s
  | 0, _ => rfl
  | d + 1, hd => by
    have ih := lpA_s h (c := c) (s := s) d (by omega)
    unfold lpA at ih ⊢
    rw [it_s, it_s, ih, it_s]
    unfold inP
    rw [show c + 1 - (d + 1) = (c - (d + 1)) + 1 by omega, it_s, show d + (1 + (c - (d + 1))) = c by omega, col_it h]
theorem lp_eq (h : ∀ a b a2 b2 s, A a b (A a2 b2 s) = A a2 b2 (A a b s)) {s : α} : ∀ c, lpA A c c s = lpB A c s
  | 0 => rfl
  | 1 => rfl
  | c + 2 => by
    have ih := lp_eq h (s := s) (c + 1)
    have e : lpA A (c + 2) (c + 2) s = lpA A (c + 2) (c + 1) s := by
      unfold lpA
      rw [it_s]
      unfold inP
      rw [Nat.sub_self]
      rfl
    rw [e, lpA_s h (c + 1) (Nat.le_refl _), ih]
    rfl
end
section
variable {σ : Sg} {R : R4} {g : hf_G} {I I2 : hf_I} {J J2 : hf_J} {s k c a b : Nat} {i j x y : Int32}
/-- how far a and b are -/
def qZ (X Y : Nat → Nat) (a b : Nat) : Int := sqZ (wyZ (X a) (X b)) (wyZ (Y a) (Y b))
def farN (X Y : Nat → Nat) (a b : Nat) : Nat := rtN (iZ (qZ X Y a b)) 13
theorem qZ_n {X Y : Nat → Nat} : ∃ q : Nat, qZ X Y a b = q ∧ q ≤ 8388608 := by
  have h1 := wyZ_rng (a := (X a : Int)) (b := (X b : Int))
  have h2 := wyZ_rng (a := (Y a : Int)) (b := (Y b : Int))
  have := sqZ_rng (x := wyZ (X a) (X b)) (y := wyZ (Y a) (Y b)) ⟨by omega, by omega⟩ ⟨by omega, by omega⟩
  unfold qZ
  exact ⟨(sqZ (wyZ (X a) (X b)) (wyZ (Y a) (Y b))).toNat, by omega, by omega⟩
theorem far_le {X Y : Nat → Nat} : farN X Y a b ≤ 2896 := by
  obtain ⟨q, h1, h2⟩ := qZ_n (X := X) (Y := Y) (a := a) (b := b)
  unfold farN
  rw [h1]
  exact (rt_eq h2).2
theorem way_c (h : RWc J c R) (hR : R4ok c R) (ha : a < c) (hb : b < c) : wayL (J 4 a) (J 4 b) = lZ (wyZ (R.1 a) (R.1 b)) ∧ wayL (J 6 a) (J 6 b) = lZ (wyZ (R.2.1 a) (R.2.1 b)) := by
  obtain ⟨h1, h2, -, -⟩ := h a ha
  obtain ⟨h3, h4, -, -⟩ := h b hb
  obtain ⟨r1, r2⟩ := hR a ha
  obtain ⟨r3, r4⟩ := hR b hb
  rw [h1, h2, h3, h4]
  exact ⟨wayL_z ⟨by omega, by omega⟩ ⟨by omega, by omega⟩, wayL_z ⟨by omega, by omega⟩ ⟨by omega, by omega⟩⟩
theorem way_m (h : RWm I J c R) (hR : R4ok c R) (ha : a < c) (hb : b < c) : wyI (I 271 (768 + a)) (I 271 (768 + b)) = iZ (wyZ (R.1 a) (R.1 b)) ∧ wyI (I 272 (768 + a)) (I 272 (768 + b)) = iZ (wyZ (R.2.1 a) (R.2.1 b)) := by
  obtain ⟨h1, h2, -, -⟩ := h a ha
  obtain ⟨h3, h4, -, -⟩ := h b hb
  obtain ⟨r1, r2⟩ := hR a ha
  obtain ⟨r3, r4⟩ := hR b hb
  rw [h1, h2, h3, h4, nI_iZ, nI_iZ, nI_iZ, nI_iZ]
  exact ⟨wyI_z ⟨by omega, by omega⟩ ⟨by omega, by omega⟩, wyI_z ⟨by omega, by omega⟩ ⟨by omega, by omega⟩⟩
theorem far_c (h : RWc J c R) (hR : R4ok c R) (ha : a < c) (hb : b < c) : farL (J 4) (J 6) a b = lZ (farN R.1 R.2.1 a b) := by
  obtain ⟨w1, w2⟩ := way_c h hR ha hb
  obtain ⟨q, h1, h2⟩ := qZ_n (X := R.1) (Y := R.2.1) (a := a) (b := b)
  unfold farL farN
  rw [w1, w2, sqL_z]
  show rtL (lZ (qZ R.1 R.2.1 a b)) 12 = _
  rw [h1]
  exact (rt_eq h2).1
theorem far_m (h : RWm I J c R) (hR : R4ok c R) (ha : a < c) (hb : b < c) : rtA I a b = farN R.1 R.2.1 a b := by
  obtain ⟨w1, w2⟩ := way_m h hR ha hb
  unfold rtA apI farN
  rw [show 64 * 12 + a = 768 + a from rfl, show 64 * 12 + b = 768 + b from rfl, w1, w2, sqI_z]
  rfl
def cnA (p : Nat → Nat → Bool) (a b : Nat) (z : Int32) : Int32 := if p a b = true then z + 1 else z
theorem cnA_c {p : Nat → Nat → Bool} : ∀ a b a2 b2 z, cnA p a b (cnA p a2 b2 z) = cnA p a2 b2 (cnA p a b z) := by
  intro a b a2 b2 z
  unfold cnA
  by_cases h1 : p a b = true
  · by_cases h2 : p a2 b2 = true
    · rw [if_pos h1, if_pos h2, if_pos h2, if_pos h1]
    · rw [if_pos h1, if_neg h2, if_neg h2, if_pos h1]
  · by_cases h2 : p a2 b2 = true
    · rw [if_neg h1, if_pos h2, if_pos h2, if_neg h1]
    · rw [if_neg h1, if_neg h2, if_neg h2, if_neg h1]
def prB (R : R4) (i j : Int32) (a b : Nat) : Bool := decide (i ≤ nI (farN R.1 R.2.1 a b)) && decide (nI (farN R.1 R.2.1 a b) < j)
theorem i64_le : (i.toInt64 ≤ lZ (k : Nat)) = (lZ i.toInt ≤ lZ (k : Nat)) := by rw [i64_z]
theorem prB_c (hk : k ≤ 2896) : decide (i.toInt64 ≤ lZ (k : Nat) ∧ lZ (k : Nat) < j.toInt64) = (decide (i ≤ nI k) && decide (nI k < j)) := by
  have r1 := iR_of i
  have r2 := iR_of j
  have e1 : (i.toInt64 ≤ lZ (k : Nat)) = (i ≤ nI k) := by
    rw [i64_z, lZ_le ⟨by have := r1.1; omega, by have := r1.2; omega⟩ (lRs (by omega) (by omega)), Int32.le_iff_toInt_le, nI_toInt (by omega)]
  have e2 : (lZ (k : Nat) < j.toInt64) = (nI k < j) := by
    rw [i64_z, lZ_lt (lRs (by omega) (by omega)) ⟨by have := r2.1; omega, by have := r2.2; omega⟩, Int32.lt_iff_toInt_lt, nI_toInt (by omega)]
  simp only [e1, e2, Bool.decide_and]
theorem agr_pairs (hσ : SOK σ) : agr 1 cdA σ (fun g I J => hf_rn 135 0 [some (.ref 0), some (.int i), some (.int j)] [] g I J) (fun g I J => hf_rn 221 0 [some (.ref 270), some (.int i), some (.int j), none, none, none, none] [] g I J) := by
  have hN := sok_N hσ
  by_cases ho : 0 ≤ i
  · refine Or.inl ⟨σ, some (.int (lpB (cnA (prB (nowR σ) i j)) (sN σ) 0)), hσ, ⟨_, rfl⟩, fun g I J hL hW hC => ?_, fun g I J hL hM => ?_⟩
    · have hr := (c_pairsF (i := i) (j := j) (J := J) (lay_hx hL) (RC_c hC) hN.2).trans (if_pos ho)
      have e : cnI (sN σ) (fun a b => decide (i.toInt64 ≤ farL (J 4) (J 6) a b ∧ farL (J 4) (J 6) a b < j.toInt64)) = lpB (cnA (prB (nowR σ) i j)) (sN σ) 0 := by
        rw [← lp_eq cnA_c]
        refine it_cong fun lo z hlo => it_cong fun t z ht => ?_
        have hf := far_c (RC_rw hC) (now_ok hσ) hlo (show lo + (1 + t) < sN σ by omega)
        have hb : decide (i.toInt64 ≤ farL (J 4) (J 6) lo (lo + (1 + t)) ∧ farL (J 4) (J 6) lo (lo + (1 + t)) < j.toInt64) = prB (nowR σ) i j lo (lo + (1 + t)) := by
          simp only [hf]
          exact prB_c far_le
        show (if decide (i.toInt64 ≤ farL (J 4) (J 6) lo (lo + (1 + t)) ∧ farL (J 4) (J 6) lo (lo + (1 + t)) < j.toInt64) = true then z + 1 else z) = if prB (nowR σ) i j lo (lo + (1 + t)) = true then z + 1 else z
        simp only [hb]
      rw [e] at hr
      exact cOK_0 hC hr
    · have hr := m_pairsF (i := i) (j := j) (J := J) (lay_md hL) (RM_c hM) hN.2 (by omega) ho
      have e : mcI (sN σ) (fun a b => decide (i ≤ nI (rtA I a b)) && decide (nI (rtA I a b) < j)) = lpB (cnA (prB (nowR σ) i j)) (sN σ) 0 := by
        refine it_cong fun t z ht => it_cong fun a z ha => ?_
        have hf := far_m (RM_rw hM) (now_ok hσ) (show a < sN σ by omega) (show t + 1 < sN σ by omega)
        have hb : (decide (i ≤ nI (rtA I a (t + 1))) && decide (nI (rtA I a (t + 1)) < j)) = prB (nowR σ) i j a (t + 1) := by
          simp only [hf]
          rfl
        show (if (decide (i ≤ nI (rtA I a (t + 1))) && decide (nI (rtA I a (t + 1)) < j)) = true then z + 1 else z + 0) = if prB (nowR σ) i j a (t + 1) = true then z + 1 else z
        simp only [hb, Int32.add_zero]
      rw [e] at hr
      exact mOK_th hσ hM hr
  · exact Or.inr ⟨1, some (.int 0), Or.inl rfl, (by decide : ¬ (1 : Int32) = 0), ⟨_, rfl⟩, fun g I J hL hW hC => cEX_0 hC ((c_pairsF (lay_hx hL) (RC_c hC) hN.2).trans (if_neg ho)), fun g I J hL hM => mOK_th hσ hM (m_pairsX (lay_md hL) (Int32.not_le.mp ho))⟩
end
