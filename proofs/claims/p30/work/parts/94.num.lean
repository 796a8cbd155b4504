section
variable {v w : Int64} {a b z x y : Int} {i j : Int32}
theorem lRs (h1 : -1000000000000000 ≤ a) (h2 : a ≤ 1000000000000000) : lR a := ⟨by omega, by omega⟩
theorem xor_sign (h : 0 ≤ w.toInt) : (0 ≤ v ^^^ w) = (0 ≤ v.toInt) := by
  rw [Int64.le_iff_toInt_le, show (0 : Int64).toInt = 0 from rfl]
  have h1 : (v ^^^ w).toBitVec.msb = v.toBitVec.msb := by
    rw [Int64.toBitVec_xor, BitVec.msb_xor, BitVec.msb_eq_toInt (x := w.toBitVec)]
    have : ¬ w.toBitVec.toInt < 0 := by
      have e : w.toBitVec.toInt = w.toInt := rfl
      omega
    have h9 : ¬ w.toInt < 0 := by omega
    simp [h9]
  rw [BitVec.msb_eq_toInt, BitVec.msb_eq_toInt] at h1
  have e1 : (v ^^^ w).toBitVec.toInt = (v ^^^ w).toInt := rfl
  have e2 : v.toBitVec.toInt = v.toInt := rfl
  rw [e1, e2] at h1
  have h2 := decide_eq_decide.mp h1
  apply propext
  omega
theorem td_pos (h : 0 ≤ z) : z.tdiv b = z / b := Int.tdiv_eq_ediv_of_nonneg h
theorem td_neg (h : z < 0) (hb : 0 < b) : z.tdiv b = if z.tdiv b * b = z then z / b else z / b + 1 := by
  have e : z.tdiv b = -((-z) / b) := by
    rw [← Int.tdiv_eq_ediv_of_nonneg (by omega), Int.neg_tdiv, Int.neg_neg]
  have h1 := Int.emod_add_mul_ediv (-z) b
  have h2 := Int.emod_nonneg (-z) (show b ≠ 0 by omega)
  have h3 := Int.emod_lt_of_pos (-z) hb
  rw [e]
  generalize (-z) / b = q at *
  generalize (-z) % b = r at *
  have h4 : -q * b = z + r := by rw [Int.neg_mul, Int.mul_comm]; omega
  rw [h4]
  by_cases c : r = 0
  · rw [if_pos (by omega)]
    exact ((Int.ediv_emod_unique (q := -q) (r := 0) hb).mpr ⟨by rw [Int.mul_neg]; omega, by omega, hb⟩).1.symm
  · rw [if_neg (by omega)]
    have := ((Int.ediv_emod_unique (a := z) (q := -q - 1) (r := b - r) hb).mpr ⟨by rw [Int.mul_sub, Int.mul_neg]; omega, by omega, by omega⟩).1
    omega
theorem L_div (hb : 0 < b) (hb2 : lR b) : v / lZ b = lZ (v.toInt.tdiv b) := by
  have := lZ_div (lR_of v) hb2 (show b ≠ -1 by omega)
  rw [lZ_of] at this
  exact this
theorem fdv_z (hb : 0 < b) (hb2 : lR b) : fdv v (lZ b) = lZ (v.toInt / b) := by
  have hz := lR_of v
  unfold fdv
  have hx := xor_sign (v := v) (w := lZ b) (by rw [lZ_toInt hb2]; omega)
  rw [L_div hb hb2]
  by_cases c : 0 ≤ v.toInt
  · rw [if_pos (by rw [hx]; exact c), td_pos c]
  · rw [if_neg (by rw [hx]; exact c)]
    have h1 := td_neg (z := v.toInt) (by omega) hb
    have e : (lZ (v.toInt.tdiv b) * lZ b = v) = (v.toInt.tdiv b * b = v.toInt) := by
      rw [lZ_mul]
      have hr : lR (v.toInt.tdiv b * b) := by
        have h2 := Int.tmod_add_mul_tdiv v.toInt b
        have h3 : (v.toInt.tdiv b * b) = b * v.toInt.tdiv b := Int.mul_comm _ _
        by_cases c0 : v.toInt.tdiv b * b = v.toInt
        · rw [c0]; exact hz
        · rw [if_neg c0] at h1
          have h4 := Int.emod_add_mul_ediv v.toInt b
          have h5 := Int.emod_nonneg v.toInt (show b ≠ 0 by omega)
          have h6 := Int.emod_lt_of_pos v.toInt hb
          have h7 : b * v.toInt.tdiv b = b * (v.toInt / b) + b := by rw [h1, Int.mul_add, Int.mul_one]
          have h8 : v.toInt / b < 0 := Int.ediv_neg_of_neg_of_pos (by omega) hb
          have h9 : v.toInt.tdiv b ≤ 0 := by omega
          have h10 := Int.mul_nonpos_of_nonpos_of_nonneg h9 (Int.le_of_lt hb)
          exact ⟨by have := hz.1; omega, by omega⟩
      rw [← Int64.toInt_inj, lZ_toInt hr]
    by_cases c2 : v.toInt.tdiv b * b = v.toInt
    · rw [if_pos (by rw [e]; exact c2), h1, if_pos c2]
    · rw [if_neg (by rw [e]; exact c2), h1, if_neg c2, show (1 : Int64) = lZ 1 from rfl, lZ_sub]
      congr 1
      omega
theorem fmd_fdv (h : ¬ w = 0) : fmd v w = v - fdv v w * w := by
  unfold fmd fdv
  by_cases c : 0 ≤ v ^^^ w
  · rw [if_pos c, if_pos c]
  · rw [if_neg c, if_neg c]
    by_cases c2 : v / w * w = v
    · rw [if_pos c2, c2, if_pos (Int64.sub_self v)]
    · rw [if_neg c2]
      have c3 : ¬ v - v / w * w = 0 := by
        intro e
        apply c2
        have := congrArg (fun t => t + v / w * w) e
        simp only [Int64.sub_add_cancel, Int64.zero_add] at this
        exact this.symm
      rw [if_neg c3, Int64.sub_mul, Int64.one_mul]
      generalize v / w * w = t
      rw [← lZ_of v, ← lZ_of t, ← lZ_of w, lZ_sub, lZ_sub, lZ_sub, lZ_add]
      congr 1
      omega
theorem fmd_z (hb : 0 < b) (hb2 : lR b) : fmd v (lZ b) = lZ (v.toInt % b) := by
  have hne : ¬ lZ b = 0 := by rw [show (0 : Int64) = lZ 0 from rfl, lZ_eq hb2 (lRs (by omega) (by omega))]; omega
  rw [fmd_fdv hne, fdv_z hb hb2]
  conv => lhs; lhs; rw [← lZ_of v]
  rw [lZ_mul, lZ_sub]
  congr 1
  have := Int.emod_add_mul_ediv v.toInt b
  rw [Int.mul_comm b] at this
  omega
theorem dwL_z (hb : 0 < b) (hb2 : lR b) : dwL v (lZ b) = lZ (v.toInt / b) := by
  have hz := lR_of v
  unfold dwL
  rw [L_div hb hb2]
  have h4 := Int.emod_add_mul_ediv v.toInt b
  have h5 := Int.emod_nonneg v.toInt (show b ≠ 0 by omega)
  have h6 := Int.emod_lt_of_pos v.toInt hb
  by_cases c : 0 ≤ v.toInt
  · have h0 : ¬ v < lZ (v.toInt.tdiv b) * lZ b := by
      rw [lZ_mul, Int64.lt_iff_toInt_lt, td_pos c]
      have h7 := Int.ediv_nonneg c (Int.le_of_lt hb)
      have h8 := Int.mul_nonneg h7 (Int.le_of_lt hb)
      rw [Int.mul_comm b] at h4
      rw [lZ_toInt ⟨by omega, by have := hz.2; omega⟩]
      omega
    rw [if_neg h0, td_pos c]
  · have h1 := td_neg (z := v.toInt) (by omega) hb
    have h8 : v.toInt / b < 0 := Int.ediv_neg_of_neg_of_pos (by omega) hb
    by_cases c2 : v.toInt.tdiv b * b = v.toInt
    · rw [if_pos c2] at h1
      have h0 : ¬ v < lZ (v.toInt.tdiv b) * lZ b := by
        rw [lZ_mul, c2, lZ_of]
        exact Int64.lt_irrefl
      rw [if_neg h0, h1]
    · rw [if_neg c2] at h1
      have h7 : v.toInt.tdiv b * b = b * (v.toInt / b) + b := by rw [h1, Int.add_mul, Int.one_mul, Int.mul_comm]
      have h9 : v.toInt.tdiv b ≤ 0 := by omega
      have h10 := Int.mul_nonpos_of_nonpos_of_nonneg h9 (Int.le_of_lt hb)
      have h0 : v < lZ (v.toInt.tdiv b) * lZ b := by
        rw [lZ_mul, Int64.lt_iff_toInt_lt, lZ_toInt ⟨by have := hz.1; omega, by omega⟩]
        omega
      rw [if_pos h0, h1, show (1 : Int64) = lZ 1 from rfl, lZ_sub]
      congr 1
      omega
theorem fdv_dwL (hb : 0 < b) (hb2 : lR b) : fdv v (lZ b) = dwL v (lZ b) := by rw [fdv_z hb hb2, dwL_z hb hb2]
theorem plc_z : plc v = lZ (v.toInt % 4096) := fmd_z (b := 4096) (by decide) (lRs (by decide) (by decide))
/-- the way between two numbers of places -/
def wyZ (a b : Int) : Int := (b - a + 2048) % 4096 - 2048
theorem wyZ_rng : -2048 ≤ wyZ a b ∧ wyZ a b ≤ 2047 := by unfold wyZ; omega
theorem wayL_z (ha : 0 ≤ a ∧ a < 4096) (hb : 0 ≤ b ∧ b < 4096) : wayL (lZ a) (lZ b) = lZ (wyZ a b) := by
  unfold wayL
  rw [lZ_sub, show (2048 : Int64) = lZ 2048 from rfl, lZ_add, show (4096 : Int64) = lZ 4096 from rfl, fmd_z (by decide) (lRs (by decide) (by decide)), lZ_toInt (lRs (by omega) (by omega)), lZ_sub]
  rfl
def sqZ (x y : Int) : Int := x * x + y * y
theorem sq_rng (hx : -2048 ≤ x ∧ x ≤ 2048) : 0 ≤ x * x ∧ x * x ≤ 4194304 := by
  have h1 : (x * x) = (x.natAbs * x.natAbs : Nat) := by rw [Int.natCast_mul, Int.natAbs_mul_self']
  have h2 : x.natAbs ≤ 2048 := by omega
  have h3 := Nat.mul_le_mul h2 h2
  omega
theorem sqZ_rng (hx : -2048 ≤ x ∧ x ≤ 2048) (hy : -2048 ≤ y ∧ y ≤ 2048) : 0 ≤ sqZ x y ∧ sqZ x y ≤ 8388608 := by
  have h1 := sq_rng hx
  have h2 := sq_rng hy
  unfold sqZ
  omega
theorem sqL_z : sqL (lZ x) (lZ y) = lZ (sqZ x y) := by unfold sqL sqZ; rw [lZ_mul, lZ_mul, lZ_add]
theorem sqI_z : sqI (iZ x) (iZ y) = iZ (sqZ x y) := by unfold sqI sqZ; rw [iZ_mul, iZ_mul, iZ_add]
/-- the whole root -/
def isR (q n : Nat) : Prop := n * n ≤ q ∧ q < (n + 1) * (n + 1)
theorem isR_one {q n m : Nat} (h : isR q n) (h2 : isR q m) : n = m := by
  obtain ⟨a1, a2⟩ := h
  obtain ⟨b1, b2⟩ := h2
  apply Classical.byContradiction
  intro c
  rcases Nat.lt_or_gt_of_ne c with c | c
  · have := Nat.mul_le_mul (show n + 1 ≤ m from c) (show n + 1 ≤ m from c); omega
  · have := Nat.mul_le_mul (show m + 1 ≤ n from c) (show m + 1 ≤ n from c); omega
theorem rtN_r {q : Nat} (hq : q ≤ 8388608) : isR q (rtN (nI q) 13) := by
  have key : ∀ t, t ≤ 13 → rtN (nI q) t * rtN (nI q) t ≤ q ∧ q < (rtN (nI q) t + 8192 / 2 ^ t) * (rtN (nI q) t + 8192 / 2 ^ t) := by
    intro t
    induction t with
    | zero => intro _; exact ⟨Nat.zero_le _, by show q < (0 + 8192 / 1) * (0 + 8192 / 1); omega⟩
    | succ t ih =>
      intro ht
      obtain ⟨h1, h2⟩ := ih (by omega)
      have hd : 8192 / 2 ^ (t + 1) = dgN t := by
        unfold dgN
        rw [Nat.pow_succ, Nat.mul_comm, ← Nat.div_div_eq_div_mul]
      have hd2 : 8192 / 2 ^ t = 2 * dgN t := by
        have : ∀ t, t < 13 → 8192 / 2 ^ t = 2 * dgN t := by decide
        exact this t (by omega)
      rw [hd]
      rw [hd2] at h2
      have hp := dgN_p t (by omega)
      have hl := dgN_le t
      have hle : rtN (nI q) t ≤ 2897 := by
        apply Classical.byContradiction
        intro c
        have := Nat.mul_le_mul (show 2898 ≤ rtN (nI q) t by omega) (show 2898 ≤ rtN (nI q) t by omega)
        omega
      rw [rtN, it_s, ← rtN]
      generalize rtN (nI q) t = f at *
      have e : (nI (f + dgN t) ≤ nI q / nI (f + dgN t)) = ((f + dgN t) * (f + dgN t) ≤ q) := by
        rw [nI_dv (by omega) (by omega), z_ii (by omega) (by have := Nat.div_le_self q (f + dgN t); omega), Nat.le_div_iff_mul_le (by omega)]
      simp only [e]
      split
      · rename_i c
        refine ⟨c, ?_⟩
        rw [show f + dgN t + dgN t = f + 2 * dgN t by omega]
        exact h2
      · rename_i c
        exact ⟨h1, by omega⟩
  exact key 13 (Nat.le_refl _)
theorem rtL_r {q : Nat} (hq : q ≤ 8388608) : ∃ n, n ≤ 2896 ∧ isR q n ∧ rtL (lZ q) 12 = lZ n := by
  have key : ∀ t, t ≤ 12 → ∃ f : Nat, f * f ≤ q ∧ q < (f + 4096 / 2 ^ t) * (f + 4096 / 2 ^ t) ∧ rtL (lZ q) t = lZ f := by
    intro t
    induction t with
    | zero => intro _; exact ⟨0, Nat.zero_le _, by show q < (0 + 4096 / 1) * (0 + 4096 / 1); omega, rfl⟩
    | succ t ih =>
      intro ht
      obtain ⟨f, h1, h2, h3⟩ := ih (by omega)
      have hle : f ≤ 2897 := by
        apply Classical.byContradiction
        intro c
        have := Nat.mul_le_mul (show 2898 ≤ f by omega) (show 2898 ≤ f by omega)
        omega
      have hd : 4096 / 2 ^ (t + 1) = 2048 / 2 ^ t := by rw [Nat.pow_succ, Nat.mul_comm, ← Nat.div_div_eq_div_mul]
      have hd2 : 4096 / 2 ^ t = 2 * (2048 / 2 ^ t) := by
        have : ∀ t, t < 12 → 4096 / 2 ^ t = 2 * (2048 / 2 ^ t) := by decide
        exact this t (by omega)
      have hl : 2048 / 2 ^ t ≤ 2048 := Nat.div_le_self _ _
      rw [hd]
      rw [hd2] at h2
      rw [rtL, it_s, ← rtL, h3]
      have hg : dgL t = lZ (2048 / 2 ^ t : Nat) := rfl
      rw [hg]
      generalize 2048 / 2 ^ t = d at *
      have hm : (f + d) * (f + d) ≤ 4945 * 4945 := Nat.mul_le_mul (by omega) (by omega)
      have e : ((lZ f + lZ d) * (lZ f + lZ d) ≤ lZ q) = ((f + d) * (f + d) ≤ q) := by
        rw [lZ_add, lZ_mul, lZ_le (lRs (by rw [← Int.natCast_add, ← Int.natCast_mul]; omega) (by rw [← Int.natCast_add, ← Int.natCast_mul]; omega)) (lRs (by omega) (by omega)), ← Int.natCast_add, ← Int.natCast_mul]
        apply propext
        omega
      simp only [e]
      split
      · rename_i c
        refine ⟨f + d, c, ?_, by rw [lZ_add, Int.natCast_add]⟩
        rw [show f + d + d = f + 2 * d by omega]
        exact h2
      · rename_i c
        exact ⟨f, h1, by omega, rfl⟩
  obtain ⟨f, h1, h2, h3⟩ := key 12 (Nat.le_refl _)
  refine ⟨f, ?_, ⟨h1, h2⟩, h3⟩
  apply Classical.byContradiction
  intro c
  have := Nat.mul_le_mul (show 2897 ≤ f by omega) (show 2897 ≤ f by omega)
  omega
/-- both ways find the same root -/
theorem rt_eq {q : Nat} (hq : q ≤ 8388608) : rtL (lZ q) 12 = lZ (rtN (iZ q) 13) ∧ rtN (iZ q) 13 ≤ 2896 := by
  obtain ⟨n, h1, h2, h3⟩ := rtL_r hq
  have h4 := rtN_r hq
  rw [nI_iZ] at h4
  have e := isR_one h2 h4
  rw [h3, ← e]
  exact ⟨rfl, h1⟩
end
