section
variable {σ : Sg} {A B : Nat → Option Nat} {R O : Nat → Int32} {I I2 : hf_I} {J J2 : hf_J} {g : hf_G} {c k f l p n P t q e o : Nat} {i j x y : Int32} {cn : Nat → Nat} {nx nx2 : Nat → Nat → Option (Nat × Nat)} {co co2 : Nat → Nat → Int32} {Hs : Nat → Nat → Int64} {w : Nat → Nat → Nat}
theorem ctB_cut {p q : Nat → Bool} (h1 : ∀ j, j < n → p j = q j) : ∀ d, (∀ j, n ≤ j → j < n + d → p j = false) → ctB p (n + d) = ctB q n
  | 0, _ => it_cong fun j s hj => by rw [h1 j hj]
  | d + 1, h2 => by
    have ih := ctB_cut h1 d (fun j a b => h2 j a (by omega))
    show ctB p (n + d + 1) = _
    rw [ctB_s, h2 (n + d) (by omega) (by omega), if_neg (by decide), ih]
/-- how many grains two halos share -/
def shS (σ : Sg) (p k e o : Nat) : Nat := shT (sH σ e) (sH σ p) o k (sN σ)
theorem pop_sh (hσ : SOK σ) (hC : RC σ I J) (he : e < sP σ) (hp : p < sP σ) (ho : o < sC σ e) (hk : k < sC σ p) : popI (J (34 + 17 * e + 12) o &&& J (34 + 17 * p + 12) k) = nI (shS σ p k e o) := by
  have hN := sok_N hσ
  rw [popI_n]
  congr 1
  have h1 := (hC.2.2 e he).2.2.2.1
  have h2 := (hC.2.2 p hp).2.2.2.1
  have := ctB_cut (n := sN σ) (p := btL (J (34 + 17 * e + 12) o &&& J (34 + 17 * p + 12) k)) (q := fun j => decide (sH σ e j = some o ∧ sH σ p j = some k)) (fun j hj => by
    rw [bt_and (by omega), h1 o j ho (by omega), h2 k j hk (by omega), ← Bool.decide_and]
    exact decide_eq_decide.mpr ⟨fun q => ⟨q.1.2, q.2.2⟩, fun q => ⟨⟨hj, q.1⟩, hj, q.2⟩⟩) (64 - sN σ) (fun j a b => by
    rw [bt_and (by omega), h1 o j ho (by omega), decide_eq_false (fun q => by omega), Bool.false_and])
  rw [show sN σ + (64 - sN σ) = 64 by omega] at this
  exact this
theorem mf_eq {i k : Nat} (hw : ∀ o, o < cn e → popI (Hs e o &&& Hs i k) = nI (w e o) ∧ w e o ≤ 64) {u : Int32 × Int32} {v : Option (Nat × Nat) × Int32} (h0 : u.1 = cdI v.1 ∧ u.2 = v.2 ∧ ∃ z, z ≤ 64 ∧ v.2 = nI z) {z : Int} (hz : z = e) : ∀ t, t ≤ cn e → (mfZ n cn Hs nx i k z u t).1 = cdI (mfM nx (fun e o => nI (w e o)) i k e v t).1 ∧ (mfZ n cn Hs nx i k z u t).2 = (mfM nx (fun e o => nI (w e o)) i k e v t).2 ∧ ∃ y, y ≤ 64 ∧ (mfM nx (fun e o => nI (w e o)) i k e v t).2 = nI y := by
  subst hz
  intro t
  induction t with
  | zero => intro _; exact h0
  | succ t ih =>
    intro ht
    obtain ⟨i1, i2, y, y1, y2⟩ := ih (by omega)
    obtain ⟨w1, w2⟩ := hw t (by omega)
    have e1 : mfZ n cn Hs nx i k (e : Int) u (t + 1) = if nx (e : Int).toNat t = some (i, k) ∧ (mfZ n cn Hs nx i k (e : Int) u t).2 < popI (Hs (e : Int).toNat t &&& Hs i k) then (nI (100 * (e : Int).toNat + t), popI (Hs (e : Int).toNat t &&& Hs i k)) else mfZ n cn Hs nx i k (e : Int) u t := rfl
    have e2 : mfM nx (fun e o => nI (w e o)) i k e v (t + 1) = if (if nx e t = some (i, k) then nI (w e t) else 0) ≤ (mfM nx (fun e o => nI (w e o)) i k e v t).2 then mfM nx (fun e o => nI (w e o)) i k e v t else (some (e, t), if nx e t = some (i, k) then nI (w e t) else 0) := rfl
    rw [e1, e2, Int.toNat_natCast, w1, i2, y2]
    have hq : (nI (w e t) ≤ nI y) = (w e t ≤ y) := z_ii (by omega) (by omega)
    have hl : (nI y < nI (w e t)) = (y < w e t) := z_il (by omega) (by omega)
    by_cases c1 : nx e t = some (i, k)
    · rw [if_pos c1]
      by_cases c2 : w e t ≤ y
      · rw [if_pos (hq.mpr c2), if_neg (fun q => by have := hl.mp q.2; omega)]
        exact ⟨i1, i2, y, y1, y2⟩
      · rw [if_neg (fun q => c2 (hq.mp q)), if_pos ⟨c1, hl.mpr (by omega)⟩]
        exact ⟨rfl, rfl, _, w2, rfl⟩
    · have hy : (0 : Int32) ≤ nI y := nI_pos' (by omega)
      rw [if_neg c1, if_pos hy, if_neg (fun q => c1 q.1)]
      exact ⟨i1, i2, y, y1, y2⟩
theorem fr_eq {i k : Nat} (hi : i < n) (hw : ∀ e o, e < i → o < cn e → popI (Hs e o &&& Hs i k) = nI (w e o) ∧ w e o ≤ 64) : frA n cn Hs nx i k = cdI (frM cn nx (fun e o => nI (w e o)) i k) := by
  unfold frA frM
  by_cases h1 : 1 ≤ i
  · rw [if_pos h1]
    have z1 : ctZ n cn ((i : Int) - 1) = cn (i - 1) := by
      unfold ctZ
      rw [if_pos (by omega), show ((i : Int) - 1).toNat = i - 1 by omega]
    obtain ⟨a1, a2, a3⟩ := mf_eq (n := n) (nx := nx) (w := w) (u := ((-1 : Int32), (0 : Int32))) (v := (none, 0)) (e := i - 1) (fun o ho => hw (i - 1) o (by omega) ho) ⟨rfl, rfl, 0, by omega, rfl⟩ (show (i : Int) - 1 = ((i - 1 : Nat) : Int) by omega) (cn (i - 1)) (Nat.le_refl _)
    rw [z1]
    by_cases h2 : 2 ≤ i
    · rw [if_pos h2]
      have z2 : ctZ n cn ((i : Int) - 2) = cn (i - 2) := by
        unfold ctZ
        rw [if_pos (by omega), show ((i : Int) - 2).toNat = i - 2 by omega]
      rw [z2]
      exact (mf_eq (n := n) (nx := nx) (w := w) (e := i - 2) (fun o ho => hw (i - 2) o (by omega) ho) ⟨a1, a2, a3⟩ (show (i : Int) - 2 = ((i - 2 : Nat) : Int) by omega) (cn (i - 2)) (Nat.le_refl _)).1
    · rw [if_neg h2]
      have z2 : ctZ n cn ((i : Int) - 2) = 0 := by
        unfold ctZ
        rw [if_neg (by omega)]
      rw [z2]
      exact a1
  · rw [if_neg h1]
    have z1 : ctZ n cn ((i : Int) - 1) = 0 := by
      unfold ctZ
      rw [if_neg (by omega)]
    have z2 : ctZ n cn ((i : Int) - 2) = 0 := by
      unfold ctZ
      rw [if_neg (by omega)]
    rw [z1, z2]
    rfl
theorem mfM_cong {i k : Nat} {v : Option (Nat × Nat) × Int32} (h : ∀ o, o < t → nx e o = nx2 e o ∧ co e o = co2 e o) : mfM nx co i k e v t = mfM nx2 co2 i k e v t := it_cong fun o s ho => by rw [(h o ho).1, (h o ho).2]
theorem frM_cong {i k : Nat} (h : ∀ e o, e < i → o < cn e → nx e o = nx2 e o ∧ co e o = co2 e o) : frM cn nx co i k = frM cn nx2 co2 i k := by
  unfold frM
  by_cases h1 : 1 ≤ i
  · rw [if_pos h1, if_pos h1, mfM_cong (fun o ho => h (i - 1) o (by omega) ho)]
    by_cases h2 : 2 ≤ i
    · rw [if_pos h2, if_pos h2, mfM_cong (fun o ho => h (i - 2) o (by omega) ho)]
    · rw [if_neg h2, if_neg h2]
  · rw [if_neg h1, if_neg h1]
def frS (σ : Sg) (p k : Nat) : Option (Nat × Nat) := frM (sC σ) (nxS σ) (fun e o => nI (shS σ p k e o)) p k
theorem frS_c (hσ : SOK σ) (hC : RC σ I J) (hp : p < sP σ) (hk : k < sC σ p) : frA (sP σ) (sC σ) (fun i => J (34 + 17 * i + 12)) (nxS σ) p k = cdI (frS σ p k) :=
  fr_eq hp fun e o he ho => ⟨pop_sh hσ hC (by omega) hp ho hk, Nat.le_trans (shT_le _) (sok_N hσ).2⟩
end
