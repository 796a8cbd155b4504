def ptZ (x y : Int) : Nat := (if y < 0 then 4 else 0) + (if x * y < 0 ∨ (x = 0 ∧ ¬ y = 0) then 2 else 0) + (if x.natAbs < y.natAbs then 1 else 0)
theorem pt_gen (a b c d e : Prop) [Decidable a] [Decidable b] [Decidable c] [Decidable d] [Decidable e] : (if e then (if b then (if a then (4 : Int32) else 0) + 2 else if c then (if d then (if a then (4 : Int32) else 0) else (if a then (4 : Int32) else 0) + 2) else (if a then (4 : Int32) else 0)) + 1 else if b then (if a then (4 : Int32) else 0) + 2 else if c then (if d then (if a then (4 : Int32) else 0) else (if a then (4 : Int32) else 0) + 2) else (if a then (4 : Int32) else 0)) = nI ((if a then 4 else 0) + (if b ∨ (c ∧ ¬ d) then 2 else 0) + (if e then 1 else 0)) := by
  by_cases ha : a <;> by_cases hb : b <;> by_cases hc : c <;> by_cases hd : d <;> by_cases he : e <;> simp only [ha, hb, hc, hd, he, if_true, if_false, true_or, false_or, true_and, false_and, not_true_eq_false, not_false_eq_true] <;> decide
section
variable {x y : Int} {p k n m dp mk b r P : Nat}
theorem xy_rng (hx : -2048 ≤ x ∧ x ≤ 2048) (hy : -2048 ≤ y ∧ y ≤ 2048) : -4194304 ≤ x * y ∧ x * y ≤ 4194304 := mul_rng (a := 2048) (b := 2048) hx hy
theorem aL_z (hx : -2048 ≤ x ∧ x ≤ 2048) : aL (lZ x) = lZ (x.natAbs : Nat) := by
  unfold aL
  rw [show (0 : Int64) = lZ 0 from rfl]
  have e : (lZ 0 ≤ lZ x) = (0 ≤ x) := lZ_le (lRs (by omega) (by omega)) (lRs (by omega) (by omega))
  by_cases c : 0 ≤ x
  · rw [if_pos (e.mpr c)]; congr 1; omega
  · rw [if_neg (fun u => c (e.mp u)), lZ_neg]; congr 1; omega
theorem ptL_z (hx : -2048 ≤ x ∧ x ≤ 2048) (hy : -2048 ≤ y ∧ y ≤ 2048) : ptL (lZ x) (lZ y) = nI (ptZ x y) := by
  have hxy := xy_rng hx hy
  have e1 : (lZ y < 0) = (y < 0) := lZ_lt (b := 0) (lRs (by omega) (by omega)) (lRs (by decide) (by decide))
  have e2 : (lZ x * lZ y < 0) = (x * y < 0) := by rw [lZ_mul]; exact lZ_lt (b := 0) (lRs (by omega) (by omega)) (lRs (by decide) (by decide))
  have e3 : (lZ x = 0) = (x = 0) := lZ_eq (b := 0) (lRs (by omega) (by omega)) (lRs (by decide) (by decide))
  have e4 : (lZ y = 0) = (y = 0) := lZ_eq (b := 0) (lRs (by omega) (by omega)) (lRs (by decide) (by decide))
  have e5 : (aL (lZ x) < aL (lZ y)) = (x.natAbs < y.natAbs) := by
    rw [aL_z hx, aL_z hy, lZ_lt (lRs (by omega) (by omega)) (lRs (by omega) (by omega))]
    apply propext; omega
  unfold ptL
  simp only [e1, e2, e3, e4, e5]
  exact pt_gen _ _ _ _ _
theorem ptZ_lt : ptZ x y < 8 := by
  unfold ptZ
  split <;> split <;> split <;> omega
theorem mskL : ∀ m, m < 256 → ∀ p, p < 8 → btL (nI m).toInt64 p = decide (m / 2 ^ p % 2 = 1) := by decide +kernel
theorem mskI : ∀ m, m < 256 → ∀ p, p < 8 → decide ((nI m) >>> (nI p &&& 31) &&& 1 = 0) = !decide (m / 2 ^ p % 2 = 1) := by decide +kernel
/-- how far; whether it is seen there; its red -/
def rZ (x y : Int) : Nat := rtN (iZ (sqZ x y)) 13
theorem rZ_ok (hx : -2048 ≤ x ∧ x ≤ 2048) (hy : -2048 ≤ y ∧ y ≤ 2048) : rtL (sqL (lZ x) (lZ y)) 12 = lZ (rZ x y : Nat) ∧ rtN (sqI (iZ x) (iZ y)) 13 = rZ x y ∧ rZ x y ≤ 2896 := by
  have h := sqZ_rng hx hy
  obtain ⟨q, hq⟩ : ∃ q : Nat, sqZ x y = q := ⟨(sqZ x y).toNat, by omega⟩
  have h2 := rt_eq (q := q) (by omega)
  unfold rZ
  rw [sqL_z, sqI_z, hq]
  exact ⟨h2.1, rfl, h2.2⟩
def seZ (dp mk b : Nat) (x y : Int) : Bool := decide (rZ x y / dp = b) && !decide (mk / 2 ^ ptZ x y % 2 = 1)
theorem seeL_z (hx : -2048 ≤ x ∧ x ≤ 2048) (hy : -2048 ≤ y ∧ y ≤ 2048) (hd : 1 ≤ dp) (hd2 : dp ≤ 4000) (hm : mk ≤ 255) (hb : b ≤ 12) : seeL (lZ (dp : Nat)) (nI mk).toInt64 (lZ x) (lZ y) b = seZ dp mk b x y := by
  obtain ⟨r1, -, r3⟩ := rZ_ok hx hy
  have hp := ptZ_lt (x := x) (y := y)
  unfold seeL seZ
  rw [r1, ptL_z hx hy, nI_clamp (by omega), mskL mk (by omega) _ hp, z_1, nI_ll (by omega), nI_ll (by omega), lY_mul, lY_mul]
  congr 1
  generalize rZ x y = r at r3
  have m1 := Nat.mul_le_mul hb hd2
  have m2 := Nat.mul_le_mul (show b + 1 ≤ 13 by omega) hd2
  have e2 : (lZ (r : Nat) < lZ ((b + 1) * dp : Nat)) = (r < (b + 1) * dp) := by
    rw [lZ_lt ⟨by omega, by omega⟩ ⟨by omega, by omega⟩]
    apply propext; omega
  have e1 : (lZ (b * dp : Nat) ≤ lZ (r : Nat)) = (b * dp ≤ r) := lY_le (by omega) (by omega)
  refine decide_eq_decide.mpr ?_
  rw [e1, e2]
  constructor
  · rintro ⟨u1, u2⟩
    exact Nat.div_eq_of_lt_le u1 u2
  · intro u
    rw [← u]
    exact ⟨Nat.div_mul_le_self r dp, by rw [Nat.mul_comm]; exact Nat.lt_mul_div_succ r (by omega)⟩
def rdZ (x y : Int) (u v : Int64) : Int64 := lZ (rZ x y : Nat) + dwL (lZ x * u + lZ y * v) (if rZ x y = 0 then 16 else lZ (16 * rZ x y : Nat))
theorem redL_z (hx : -2048 ≤ x ∧ x ≤ 2048) (hy : -2048 ≤ y ∧ y ≤ 2048) {u v : Int64} : redL (lZ x) (lZ y) u v = rdZ x y u v := by
  obtain ⟨r1, -, r3⟩ := rZ_ok hx hy
  unfold redL rdZ
  rw [r1]
  generalize rZ x y = r at r3
  congr 1
  have e : (lZ (r : Nat) = 0) = (r = 0) := by
    rw [show (0 : Int64) = lZ 0 from rfl, lZ_eq (lRs (by omega) (by omega)) (lRs (by omega) (by omega))]
    apply propext; omega
  unfold by1
  by_cases c : r = 0
  · rw [if_pos (e.mpr c), if_pos c, if_neg (by decide)]
    exact fdv_dwL (b := 16) (by decide) (lRs (by decide) (by decide))
  · rw [if_neg (fun q => c (e.mp q)), if_neg c, show (16 : Int64) = lZ (16 : Nat) from rfl, lY_mul, if_neg (by
      rw [show (0 : Int64) = lZ 0 from rfl, lZ_eq (lRs (by omega) (by omega)) (lRs (by omega) (by omega))]; omega)]
    exact fdv_dwL (by omega) (lRs (by omega) (by omega))
end
