abbrev R4 : Type := (Nat → Nat) × (Nat → Nat) × (Nat → Int64) × (Nat → Int64)
def RWc (J : hf_J) (c : Nat) (R : R4) : Prop := ∀ k, k < c → J 4 k = lZ (R.1 k) ∧ J 6 k = lZ (R.2.1 k) ∧ J 8 k = R.2.2.1 k ∧ J 10 k = R.2.2.2 k
def R4ok (c : Nat) (R : R4) : Prop := ∀ k, k < c → R.1 k < 4096 ∧ R.2.1 k < 4096
def sgR (σ : Sg) (f : Nat → Nat) (R : R4) : Sg := sgN σ f R.1 R.2.1 R.2.2.1 R.2.2.2
def nowR (σ : Sg) : R4 := (sX σ 12, sY σ 12, sU σ 12, sW σ 12)
def mdl (s : Nat) (a b am ph : Int) (k : Nat) (z : Int) : Int64 := (moI s (iZ a) (iZ b) (iZ am) (iZ ph) k (iZ z)).toInt64
def ripS (s : Nat) (a b am ph : Int) (R : R4) : R4 := ((fun k => ((lZ (R.1 k) + mdl s a b am ph k a).toInt % 4096).toNat), (fun k => ((lZ (R.2.1 k) + mdl s a b am ph k b).toInt % 4096).toNat), (fun k => R.2.2.1 k + mdl s a b am ph k a), (fun k => R.2.2.2 k + mdl s a b am ph k b))
section
variable {σ : Sg} {f : Nat → Nat} {R : R4} {g : hf_G} {I I2 : hf_I} {J J2 : hf_J} {s k p c n t : Nat} {a b am ph z : Int} {i j x y : Int32} {v : Int64}
theorem nwR_at {α : Type} {R : Nat → α} {F : Nat → α} (h : k < t) : nwR R t F (768 + k) = F k := by
  unfold nwR
  rw [if_pos (by omega), Nat.add_sub_cancel_left]
theorem nwR_b {α : Type} {R : Nat → α} {F : Nat → α} (h : k < 768) : nwR R t F k = R k := if_neg (by omega)
theorem rwm4_g {A B : Nat → Int64} {C D : Nat → Int64} (h : k < c) : rwm4 J 4 6 8 10 c A B C D 4 k = A k ∧ rwm4 J 4 6 8 10 c A B C D 6 k = B k ∧ rwm4 J 4 6 8 10 c A B C D 8 k = C k ∧ rwm4 J 4 6 8 10 c A B C D 10 k = D k := by
  unfold rwm4 rwm2
  rw [rwm_ne (by decide), rwm_ne (by decide), rwm_ne (by decide), rwm_lt h, rwm_ne (by decide), rwm_ne (by decide), rwm_lt h, rwm_ne (by decide), rwm_lt h, rwm_lt h]
  exact ⟨rfl, rfl, rfl, rfl⟩
theorem rwm4_n {A B : Nat → Int64} {C D : Nat → Int64} (h : p ≠ 4 ∧ p ≠ 6 ∧ p ≠ 8 ∧ p ≠ 10) : rwm4 J 4 6 8 10 c A B C D p = J p := by
  unfold rwm4 rwm2
  rw [rwm_ne h.2.2.2, rwm_ne h.2.2.1, rwm_ne h.2.1, rwm_ne h.1]
theorem md_nat {m : Int} : ((m % 4096).toNat : Int) = m % 4096 := Int.toNat_of_nonneg (Int.emod_nonneg m (by decide))
theorem md_lt {m : Int} : (m % 4096).toNat < 4096 := by have := Int.emod_lt_of_pos m (by decide : (0 : Int) < 4096); omega
theorem plc_n : plc v = lZ ((v.toInt % 4096).toNat : Nat) := by rw [plc_z, md_nat]
theorem ripS_ok : R4ok c (ripS s a b am ph R) := fun k _ => ⟨md_lt, md_lt⟩
theorem rip_c (h : RWc J c R) (hs : 2 ≤ s ∧ s ≤ 8) (hc : c = s * s) (ha : -3 ≤ a ∧ a ≤ 3) (hb : -3 ≤ b ∧ b ≤ 3) (hm : -1000 ≤ am ∧ am ≤ 1000) (hp : 0 ≤ ph ∧ ph ≤ 15) : RWc (rpJ J c s (lZ a) (lZ b) (lZ am) (lZ ph)) c (ripS s a b am ph R) := by
  intro k hk
  obtain ⟨w1, r1, q1, p1⟩ := rip_z (s := s) (k := k) hs (by omega) ha hb hm hp ha
  obtain ⟨w2, r2, q2, p2⟩ := rip_z (s := s) (k := k) hs (by omega) ha hb hm hp hb
  obtain ⟨h1, h2, h3, h4⟩ := h k hk
  have e1 : mdl s a b am ph k a = lZ w1 := by unfold mdl; rw [q1, iZ_l ⟨by omega, by omega⟩]
  have e2 : mdl s a b am ph k b = lZ w2 := by unfold mdl; rw [q2, iZ_l ⟨by omega, by omega⟩]
  unfold rpJ
  obtain ⟨g1, g2, g3, g4⟩ := rwm4_g (J := J) (c := c) (A := fun k => plc (J 4 k + rpL s (lZ a) (lZ b) (lZ am) (lZ ph) k * lZ a / 64)) (B := fun k => plc (J 6 k + rpL s (lZ a) (lZ b) (lZ am) (lZ ph) k * lZ b / 64)) (C := fun k => J 8 k + rpL s (lZ a) (lZ b) (lZ am) (lZ ph) k * lZ a / 64) (D := fun k => J 10 k + rpL s (lZ a) (lZ b) (lZ am) (lZ ph) k * lZ b / 64) hk
  refine ⟨g1.trans ?_, g2.trans ?_, g3.trans ?_, g4.trans ?_⟩
  · show plc (J 4 k + rpL s (lZ a) (lZ b) (lZ am) (lZ ph) k * lZ a / 64) = lZ (((lZ (R.1 k) + mdl s a b am ph k a).toInt % 4096).toNat : Nat)
    rw [p1, h1, e1, plc_n]
  · show plc (J 6 k + rpL s (lZ a) (lZ b) (lZ am) (lZ ph) k * lZ b / 64) = lZ (((lZ (R.2.1 k) + mdl s a b am ph k b).toInt % 4096).toNat : Nat)
    rw [p2, h2, e2, plc_n]
  · show J 8 k + rpL s (lZ a) (lZ b) (lZ am) (lZ ph) k * lZ a / 64 = R.2.2.1 k + mdl s a b am ph k a
    rw [p1, h3, e1]
  · show J 10 k + rpL s (lZ a) (lZ b) (lZ am) (lZ ph) k * lZ b / 64 = R.2.2.2 k + mdl s a b am ph k b
    rw [p2, h4, e2]
theorem rpJ_n {c s : Nat} {u w am2 ph2 : Int64} (h : p ≠ 4 ∧ p ≠ 6 ∧ p ≠ 8 ∧ p ≠ 10) : rpJ J c s u w am2 ph2 p = J p := rwm4_n h
end
