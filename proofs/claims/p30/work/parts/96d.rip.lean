def ltN (s i : Nat) : Nat := 2048 * (2 * i + 1) / s
theorem lat_ok : ∀ s, s < 9 → 2 ≤ s → ∀ k, k < s * s → latX s k = lZ (ltN s (k / s)) ∧ latY s k = lZ (ltN s (k % s)) ∧ ltI (nI (k / s)) (nI s) = iZ (ltN s (k / s)) ∧ ltI (nI (k % s)) (nI s) = iZ (ltN s (k % s)) ∧ ltN s (k / s) < 4096 ∧ ltN s (k % s) < 4096 := by decide +kernel
theorem wv_ok : ∀ r, r < 16 → wvI (iZ (r : Nat)) = hf_wave r ∧ (iZ (r : Nat)).toNatClampNeg = r ∧ ¬ iZ (r : Nat) < 0 ∧ ¬ 16 ≤ iZ (r : Nat) ∧ hf_wave r = iZ (hf_wave r).toInt ∧ -64 ≤ (hf_wave r).toInt ∧ (hf_wave r).toInt ≤ 64 := by decide +kernel
theorem i64_z (x : Int32) : x.toInt64 = lZ x.toInt := by have := iZ_l (iR_of x); rw [iZ_of] at this; exact this
theorem mul_rng {w v a b : Int} (hw : -a ≤ w ∧ w ≤ a) (hv : -b ≤ v ∧ v ≤ b) : -(a * b) ≤ w * v ∧ w * v ≤ a * b := by
  have h1 : w.natAbs * v.natAbs ≤ a.natAbs * b.natAbs := Nat.mul_le_mul (by omega) (by omega)
  rw [← Int.natAbs_mul, ← Int.natAbs_mul] at h1
  have h2 : 0 ≤ a * b := Int.mul_nonneg (by omega) (by omega)
  omega
theorem wav_z {m : Int} (hm : -1000000 ≤ m ∧ m ≤ 1000000) : ∃ w : Int, (-64 ≤ w ∧ w ≤ 64) ∧ wavL (lZ m) = lZ w ∧ wvI ((lZ m) - dwL (lZ m) 16 * 16).toInt32 = iZ w := by
  obtain ⟨r, hr⟩ := Int.eq_ofNat_of_zero_le (Int.emod_nonneg m (by decide : (16 : Int) ≠ 0))
  have hr2 : m % 16 < 16 := Int.emod_lt_of_pos m (by decide)
  have hr3 : r < 16 := by omega
  obtain ⟨a1, a2, a3, a4, a5, a6⟩ := wv_ok r hr3
  have e0 : (lZ m).toInt = m := lZ_toInt (lRs (by omega) (by omega))
  have e1 : fmd (lZ m) 16 = lZ (m % 16) := by have := fmd_z (v := lZ m) (b := 16) (by decide) (lRs (by decide) (by decide)); rw [e0] at this; exact this
  have e2 : dwL (lZ m) 16 = lZ (m / 16) := by have := dwL_z (v := lZ m) (b := 16) (by decide) (lRs (by decide) (by decide)); rw [e0] at this; exact this
  refine ⟨(hf_wave r).toInt, a6, ?_, ?_⟩
  · unfold wavL
    rw [e1, lZ_i, hr, if_neg a3, if_neg a4, a2, i64_z]
  · rw [e2, show (16 : Int64) = lZ 16 from rfl, lZ_mul, lZ_sub, lZ_i, show m - m / 16 * 16 = ((r : Nat) : Int) by omega, a1]
    exact a5
theorem i3_z {i : Int32} {b : Int} (hb : 0 ≤ b ∧ b ≤ 2000000000) (h : iZ (-b) ≤ i ∧ i ≤ iZ b) : ∃ a : Int, -b ≤ a ∧ a ≤ b ∧ i = iZ a := by
  obtain ⟨h1, h2⟩ := h
  rw [← iZ_of i] at h1 h2
  have r := iR_of i
  rw [iZ_le ⟨by omega, by omega⟩ r] at h1
  rw [iZ_le r ⟨by omega, by omega⟩] at h2
  exact ⟨i.toInt, h1, h2, (iZ_of i).symm⟩
/-- what a ripple adds -/
theorem rip_z {s k : Nat} {a b am ph z : Int} (hs : 2 ≤ s ∧ s ≤ 8) (hk : k < s * s) (ha : -3 ≤ a ∧ a ≤ 3) (hb : -3 ≤ b ∧ b ≤ 3) (hm : -1000 ≤ am ∧ am ≤ 1000) (hp : 0 ≤ ph ∧ ph ≤ 15) (hz : -3 ≤ z ∧ z ≤ 3) : ∃ w : Int, (-4000 ≤ w ∧ w ≤ 4000) ∧ moI s (iZ a) (iZ b) (iZ am) (iZ ph) k (iZ z) = iZ w ∧ rpL s (lZ a) (lZ b) (lZ am) (lZ ph) k * lZ z / 64 = lZ w := by
  obtain ⟨l1, l2, l3, l4, l5, l6⟩ := lat_ok s (by omega) hs.1 k hk
  generalize ltN s (k / s) = u at l1 l3 l5
  generalize ltN s (k % s) = v at l2 l4 l6
  have hau : -12288 ≤ a * u ∧ a * u ≤ 12288 := by
    have : a = -3 ∨ a = -2 ∨ a = -1 ∨ a = 0 ∨ a = 1 ∨ a = 2 ∨ a = 3 := by omega
    rcases this with rfl | rfl | rfl | rfl | rfl | rfl | rfl <;> omega
  have hbv : -12288 ≤ b * v ∧ b * v ≤ 12288 := by
    have : b = -3 ∨ b = -2 ∨ b = -1 ∨ b = 0 ∨ b = 1 ∨ b = 2 ∨ b = 3 := by omega
    rcases this with rfl | rfl | rfl | rfl | rfl | rfl | rfl <;> omega
  obtain ⟨w, hw, hw1, hw2⟩ := wav_z (m := ph + (16 * (a * u + b * v)) / 4096) (by omega)
  have e1 : wavL (lZ ph + fdv (16 * (lZ a * latX s k + lZ b * latY s k)) 4096) = lZ w := by
    rw [l1, l2, lZ_mul, lZ_mul, lZ_add, show (16 : Int64) = lZ 16 from rfl, lZ_mul]
    have := fdv_z (v := lZ (16 * (a * u + b * v))) (b := 4096) (by decide) (lRs (by decide) (by decide))
    rw [lZ_toInt (lRs (by omega) (by omega))] at this
    rw [show (4096 : Int64) = lZ 4096 from rfl, this, lZ_add]
    exact hw1
  have e2 : rpI s (iZ a) (iZ b) (iZ ph) k = iZ w := by
    unfold rpI
    rw [l3, l4, show (16 : Int32) = iZ 16 from rfl, iZ_mul, iZ_mul, iZ_mul, iZ_mul, iZ_add]
    rw [show 16 * a * (u : Int) + 16 * b * (v : Int) = 16 * (a * u + b * v) by rw [Int.mul_add, Int.mul_assoc, Int.mul_assoc]]
    rw [iZ_l ⟨by omega, by omega⟩]
    have := dwL_z (v := lZ (16 * (a * u + b * v))) (b := 4096) (by decide) (lRs (by decide) (by decide))
    rw [lZ_toInt (lRs (by omega) (by omega))] at this
    rw [show (4096 : Int64) = lZ 4096 from rfl, this, lZ_i, iZ_add, iZ_l ⟨by omega, by omega⟩]
    exact hw2
  have hwam : -64000 ≤ w * am ∧ w * am ≤ 64000 := by
    exact mul_rng (a := 64) (b := 1000) hw hm
  generalize hq : w * am = q at hwam
  have hqz : -192000 ≤ q * z ∧ q * z ≤ 192000 := by
    have : z = -3 ∨ z = -2 ∨ z = -1 ∨ z = 0 ∨ z = 1 ∨ z = 2 ∨ z = 3 := by omega
    rcases this with rfl | rfl | rfl | rfl | rfl | rfl | rfl <;> omega
  have hd : -4000 ≤ (q * z).tdiv 64 ∧ (q * z).tdiv 64 ≤ 4000 := by
    by_cases c : 0 ≤ q * z
    · rw [td_pos c]; omega
    · rw [td_neg (by omega) (by decide)]; split <;> omega
  refine ⟨(q * z).tdiv 64, hd, ?_, ?_⟩
  · unfold moI
    rw [e2, iZ_mul, hq, iZ_mul, show (64 : Int32) = iZ 64 from rfl, iZ_div ⟨by omega, by omega⟩ ⟨by decide, by decide⟩ (by decide)]
  · unfold rpL
    rw [e1, lZ_mul, hq, lZ_mul, show (64 : Int64) = lZ 64 from rfl, lZ_div (lRs (by omega) (by omega)) (lRs (by decide) (by decide)) (by decide)]
