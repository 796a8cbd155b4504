/-- a number by its digits, k bits each -/
def nmD (k : Nat) : (Nat → Nat) → Nat → Nat
  | _, 0 => 0
  | d, m + 1 => d 0 + 2 ^ k * nmD k (fun j => d (j + 1)) m
section
variable {k m n i : Nat} {d e : Nat → Nat}
theorem nmD_s : nmD k d (m + 1) = d 0 + 2 ^ k * nmD k (fun j => d (j + 1)) m := rfl
theorem nmD_bit (hk : 0 < k) : ∀ (m : Nat) (d : Nat → Nat) (i : Nat), (∀ j, d j < 2 ^ k) → (nmD k d m).testBit i = (decide (i / k < m) && (d (i / k)).testBit (i % k)) := by
  intro m
  induction m with
  | zero => intro d i _; simp [nmD]
  | succ m ih =>
    intro d i hd
    rw [nmD_s, Nat.add_comm, Nat.testBit_two_pow_mul_add _ (hd 0)]
    by_cases c : i < k
    · rw [if_pos c, Nat.div_eq_of_lt c, Nat.mod_eq_of_lt c]
      simp
    · rw [if_neg c, ih _ _ (fun j => hd (j + 1))]
      have h1 : (i - k) / k + 1 = i / k := by
        have := Nat.sub_add_cancel (show k ≤ i by omega)
        rw [← Nat.add_div_right _ hk, this]
      have h2 : (i - k) % k = i % k := by
        have := Nat.sub_add_cancel (show k ≤ i by omega)
        rw [← Nat.add_mod_right, this]
      rw [← h1, h2]
      simp
theorem nmD_add : ∀ (m : Nat) (d e : Nat → Nat), nmD k d m + nmD k e m = nmD k (fun j => d j + e j) m := by
  intro m
  induction m with
  | zero => intro d e; rfl
  | succ m ih =>
    intro d e
    rw [nmD_s, nmD_s, nmD_s, ← ih, Nat.mul_add]
    omega
theorem nmD_cong : ∀ (m : Nat) (d e : Nat → Nat), (∀ j, j < m → d j = e j) → nmD k d m = nmD k e m := by
  intro m
  induction m with
  | zero => intro d e _; rfl
  | succ m ih =>
    intro d e h
    rw [nmD_s, nmD_s, h 0 (by omega), ih _ _ (fun j hj => h (j + 1) (by omega))]
theorem nmD_shift (m : Nat) (d : Nat → Nat) (h0 : d 0 < 2 ^ k) (hz : d (m + 1) = 0) : nmD k d (m + 1) / 2 ^ k = nmD k (fun j => d (j + 1)) (m + 1) := by
  have hl : ∀ (m : Nat) (d : Nat → Nat), d m = 0 → nmD k d (m + 1) = nmD k d m := by
    intro m
    induction m with
    | zero => intro d hd; rw [nmD_s, hd]; simp [nmD]
    | succ m ih => intro d hd; rw [nmD_s, ih _ hd, ← nmD_s]
  rw [nmD_s, Nat.add_mul_div_left _ _ (Nat.two_pow_pos k), Nat.div_eq_of_lt h0, Nat.zero_add, hl m (fun j => d (j + 1)) hz]
theorem nmD_two : ∀ (m : Nat) (d : Nat → Nat), nmD k d (2 * m) = nmD (2 * k) (fun j => d (2 * j) + 2 ^ k * d (2 * j + 1)) m := by
  intro m
  induction m with
  | zero => intro d; rfl
  | succ m ih =>
    intro d
    rw [show 2 * (m + 1) = 2 * m + 1 + 1 by omega, nmD_s, nmD_s, nmD_s, ih]
    rw [Nat.mul_add, ← Nat.mul_assoc, ← Nat.pow_add, show k + k = 2 * k by omega]
    have : (fun j => d (2 * j + 1 + 1) + 2 ^ k * d (2 * j + 1 + 1 + 1)) = fun j => d (2 * (j + 1)) + 2 ^ k * d (2 * (j + 1) + 1) := rfl
    rw [← this]
    simp only [Nat.mul_zero, Nat.zero_add]
    omega
theorem nmD_mask1 (d : Nat → Nat) (hd : ∀ j, d j < 2 ^ 1) : nmD 1 d (2 * 32) &&& 6148914691236517205 = nmD 2 (fun j => d (2 * j)) 32 := by
  have hm : ∀ i, Nat.testBit 6148914691236517205 i = (decide (i < 64) && decide (i % 2 < 1)) := by
    intro i
    by_cases c : i < 64
    · have : ∀ i, i < 64 → Nat.testBit 6148914691236517205 i = decide (i % 2 < 1) := by decide +kernel
      rw [this i c]
      simp [c]
    · rw [Nat.testBit_lt_two_pow (Nat.lt_of_lt_of_le (show 6148914691236517205 < 2 ^ 64 by decide) (Nat.pow_le_pow_right (by decide) (show 64 ≤ i by omega)))]
      simp [c]
  apply Nat.eq_of_testBit_eq
  intro i
  rw [Nat.testBit_and, nmD_bit (by decide) _ _ _ hd, nmD_bit (by decide) _ _ _ (fun j => Nat.lt_of_lt_of_le (hd _) (by decide)), hm]
  by_cases c : i % 2 < 1
  · have h1 : i / 1 = 2 * (i / 2) := by omega
    have h2 : i % 1 = i % 2 := by omega
    have h3 : (i / 1 < 2 * 32) = (i / 2 < 32) := by apply propext; omega
    have h4 : (i < 64) = (i / 2 < 32) := by apply propext; omega
    simp only [h1, h2, h4, c]
    have h5 : (2 * (i / 2) < 2 * 32) = (i / 2 < 32) := by apply propext; omega
    simp only [h5]
    cases decide (i / 2 < 32) <;> simp
  · have h6 : (d (2 * (i / 2))).testBit (i % 2) = false := Nat.testBit_lt_two_pow (Nat.lt_of_lt_of_le (hd _) (Nat.pow_le_pow_right (by decide) (by omega)))
    rw [h6]
    simp [c]
theorem nmD_mask2 (d : Nat → Nat) (hd : ∀ j, d j < 2 ^ 2) : nmD 2 d (2 * 16) &&& 3689348814741910323 = nmD 4 (fun j => d (2 * j)) 16 := by
  have hm : ∀ i, Nat.testBit 3689348814741910323 i = (decide (i < 64) && decide (i % 4 < 2)) := by
    intro i
    by_cases c : i < 64
    · have : ∀ i, i < 64 → Nat.testBit 3689348814741910323 i = decide (i % 4 < 2) := by decide +kernel
      rw [this i c]
      simp [c]
    · rw [Nat.testBit_lt_two_pow (Nat.lt_of_lt_of_le (show 3689348814741910323 < 2 ^ 64 by decide) (Nat.pow_le_pow_right (by decide) (show 64 ≤ i by omega)))]
      simp [c]
  apply Nat.eq_of_testBit_eq
  intro i
  rw [Nat.testBit_and, nmD_bit (by decide) _ _ _ hd, nmD_bit (by decide) _ _ _ (fun j => Nat.lt_of_lt_of_le (hd _) (by decide)), hm]
  by_cases c : i % 4 < 2
  · have h1 : i / 2 = 2 * (i / 4) := by omega
    have h2 : i % 2 = i % 4 := by omega
    have h3 : (i / 2 < 2 * 16) = (i / 4 < 16) := by apply propext; omega
    have h4 : (i < 64) = (i / 4 < 16) := by apply propext; omega
    simp only [h1, h2, h4, c]
    have h5 : (2 * (i / 4) < 2 * 16) = (i / 4 < 16) := by apply propext; omega
    simp only [h5]
    cases decide (i / 4 < 16) <;> simp
  · have h6 : (d (2 * (i / 4))).testBit (i % 4) = false := Nat.testBit_lt_two_pow (Nat.lt_of_lt_of_le (hd _) (Nat.pow_le_pow_right (by decide) (by omega)))
    rw [h6]
    simp [c]
theorem nmD_mask4 (d : Nat → Nat) (hd : ∀ j, d j < 2 ^ 4) : nmD 4 d (2 * 8) &&& 1085102592571150095 = nmD 8 (fun j => d (2 * j)) 8 := by
  have hm : ∀ i, Nat.testBit 1085102592571150095 i = (decide (i < 64) && decide (i % 8 < 4)) := by
    intro i
    by_cases c : i < 64
    · have : ∀ i, i < 64 → Nat.testBit 1085102592571150095 i = decide (i % 8 < 4) := by decide +kernel
      rw [this i c]
      simp [c]
    · rw [Nat.testBit_lt_two_pow (Nat.lt_of_lt_of_le (show 1085102592571150095 < 2 ^ 64 by decide) (Nat.pow_le_pow_right (by decide) (show 64 ≤ i by omega)))]
      simp [c]
  apply Nat.eq_of_testBit_eq
  intro i
  rw [Nat.testBit_and, nmD_bit (by decide) _ _ _ hd, nmD_bit (by decide) _ _ _ (fun j => Nat.lt_of_lt_of_le (hd _) (by decide)), hm]
  by_cases c : i % 8 < 4
  · have h1 : i / 4 = 2 * (i / 8) := by omega
    have h2 : i % 4 = i % 8 := by omega
    have h3 : (i / 4 < 2 * 8) = (i / 8 < 8) := by apply propext; omega
    have h4 : (i < 64) = (i / 8 < 8) := by apply propext; omega
    simp only [h1, h2, h4, c]
    have h5 : (2 * (i / 8) < 2 * 8) = (i / 8 < 8) := by apply propext; omega
    simp only [h5]
    cases decide (i / 8 < 8) <;> simp
  · have h6 : (d (2 * (i / 8))).testBit (i % 8) = false := Nat.testBit_lt_two_pow (Nat.lt_of_lt_of_le (hd _) (Nat.pow_le_pow_right (by decide) (by omega)))
    rw [h6]
    simp [c]
end
/-- how many of 64 bits -/
def sumD (d : Nat → Nat) (m : Nat) : Nat := it m 0 fun k s => s + d k
theorem sumD_s {d : Nat → Nat} {m : Nat} : sumD d (m + 1) = sumD d m + d m := rfl
theorem sumD_two {d : Nat → Nat} : ∀ m, sumD d (2 * m) = sumD (fun j => d (2 * j) + d (2 * j + 1)) m := by
  intro m
  induction m with
  | zero => rfl
  | succ m ih => rw [show 2 * (m + 1) = 2 * m + 1 + 1 by omega, sumD_s, sumD_s, sumD_s, ih]; omega
/-- the ways of the machine on naturals -/
def popN (v : Nat) : Nat :=
  let v1 := v - (v / 2 &&& 6148914691236517205)
  let v2 := (v1 &&& 3689348814741910323) + (v1 / 4 &&& 3689348814741910323)
  let v3 := v2 + v2 / 16 &&& 1085102592571150095
  let v4 := v3 + v3 / 256
  let v5 := v4 + v4 / 65536
  let v6 := v5 + v5 / 4294967296
  v6 % 128
theorem popN_ok (b : Nat → Nat) (hb : ∀ j, b j ≤ 1) (hz : ∀ j, 64 ≤ j → b j = 0) : popN (nmD 1 b 64) = sumD b 64 := by
  unfold popN
  dsimp only
  -- pairs
  have s1 : nmD 1 b 64 / 2 &&& 6148914691236517205 = nmD 2 (fun j => b (2 * j + 1)) 32 := by
    have h1 := nmD_shift (k := 1) 63 b (by have := hb 0; omega) (hz 64 (by omega))
    rw [show (2 : Nat) ^ 1 = 2 from rfl] at h1
    rw [h1]
    exact nmD_mask1 (fun j => b (j + 1)) (fun j => by have := hb (j + 1); omega)
  have s2 : nmD 1 b 64 = nmD 2 (fun j => b (2 * j) + b (2 * j + 1)) 32 + nmD 2 (fun j => b (2 * j + 1)) 32 := by
    rw [nmD_add]
    have := nmD_two (k := 1) 32 b
    rw [this]
    exact nmD_cong _ _ _ (fun j _ => by omega)
  obtain ⟨t, ht⟩ : ∃ t : Nat → Nat, t = fun j => b (2 * j) + b (2 * j + 1) := ⟨_, rfl⟩
  have ht2 : ∀ j, t j ≤ 2 := fun j => by rw [ht]; have := hb (2 * j); have := hb (2 * j + 1); dsimp only; omega
  have htz : ∀ j, 32 ≤ j → t j = 0 := fun j hj => by rw [ht]; dsimp only; rw [hz _ (by omega), hz _ (by omega)]
  have e1 : nmD 1 b 64 - (nmD 1 b 64 / 2 &&& 6148914691236517205) = nmD 2 t 32 := by rw [s1, s2, ht]; omega
  rw [e1]
  -- fours
  have s3 : nmD 2 t 32 &&& 3689348814741910323 = nmD 4 (fun j => t (2 * j)) 16 := nmD_mask2 t (fun j => by have := ht2 j; omega)
  have s4 : nmD 2 t 32 / 4 &&& 3689348814741910323 = nmD 4 (fun j => t (2 * j + 1)) 16 := by
    have h1 := nmD_shift (k := 2) 31 t (by have := ht2 0; omega) (htz 32 (by omega))
    rw [show (2 : Nat) ^ 2 = 4 from rfl] at h1
    rw [h1]
    exact nmD_mask2 (fun j => t (j + 1)) (fun j => by have := ht2 (j + 1); omega)
  obtain ⟨u, hu⟩ : ∃ u : Nat → Nat, u = fun j => t (2 * j) + t (2 * j + 1) := ⟨_, rfl⟩
  have hu2 : ∀ j, u j ≤ 4 := fun j => by rw [hu]; have := ht2 (2 * j); have := ht2 (2 * j + 1); dsimp only; omega
  have huz : ∀ j, 16 ≤ j → u j = 0 := fun j hj => by rw [hu]; dsimp only; rw [htz _ (by omega), htz _ (by omega)]
  have e2 : (nmD 2 t 32 &&& 3689348814741910323) + (nmD 2 t 32 / 4 &&& 3689348814741910323) = nmD 4 u 16 := by rw [s3, s4, nmD_add, hu]
  rw [e2]
  -- eights
  have s5 : nmD 4 u 16 + nmD 4 u 16 / 16 = nmD 4 (fun j => u j + u (j + 1)) 16 := by
    have h1 := nmD_shift (k := 4) 15 u (by have := hu2 0; omega) (huz 16 (by omega))
    rw [show (2 : Nat) ^ 4 = 16 from rfl] at h1
    rw [h1, nmD_add]
  obtain ⟨x, hx⟩ : ∃ x : Nat → Nat, x = fun j => u (2 * j) + u (2 * j + 1) := ⟨_, rfl⟩
  have hx2 : ∀ j, x j ≤ 8 := fun j => by rw [hx]; have := hu2 (2 * j); have := hu2 (2 * j + 1); dsimp only; omega
  have hxz : ∀ j, 8 ≤ j → x j = 0 := fun j hj => by rw [hx]; dsimp only; rw [huz _ (by omega), huz _ (by omega)]
  have e3 : nmD 4 u 16 + nmD 4 u 16 / 16 &&& 1085102592571150095 = nmD 8 x 8 := by
    rw [s5, hx]
    exact nmD_mask4 (fun j => u j + u (j + 1)) (fun j => by have := hu2 j; have := hu2 (j + 1); omega)
  rw [e3]
  -- bytes
  have sh : ∀ (y : Nat → Nat), (∀ j, y j < 256) → (∀ j, 8 ≤ j → y j = 0) → nmD 8 y 8 / 256 = nmD 8 (fun j => y (j + 1)) 8 := fun y h1 h2 => nmD_shift (k := 8) 7 y (h1 0) (h2 8 (by omega))
  have e4 : nmD 8 x 8 + nmD 8 x 8 / 256 = nmD 8 (fun j => x j + x (j + 1)) 8 := by rw [sh x (fun j => by have := hx2 j; omega) hxz, nmD_add]
  obtain ⟨y, hy⟩ : ∃ y : Nat → Nat, y = fun j => x j + x (j + 1) := ⟨_, rfl⟩
  have hy2 : ∀ j, y j ≤ 16 := fun j => by rw [hy]; have := hx2 j; have := hx2 (j + 1); dsimp only; omega
  have hyz : ∀ j, 8 ≤ j → y j = 0 := fun j hj => by rw [hy]; dsimp only; rw [hxz _ (by omega), hxz _ (by omega)]
  rw [e4, ← hy]
  have e5 : nmD 8 y 8 + nmD 8 y 8 / 65536 = nmD 8 (fun j => y j + y (j + 2)) 8 := by
    rw [show (65536 : Nat) = 256 * 256 from rfl, ← Nat.div_div_eq_div_mul, sh y (fun j => by have := hy2 j; omega) hyz, sh (fun j => y (j + 1)) (fun j => by have := hy2 (j + 1); omega) (fun j hj => hyz _ (by omega)), nmD_add]
  obtain ⟨z, hzz⟩ : ∃ z : Nat → Nat, z = fun j => y j + y (j + 2) := ⟨_, rfl⟩
  have hz2 : ∀ j, z j ≤ 32 := fun j => by rw [hzz]; have := hy2 j; have := hy2 (j + 2); dsimp only; omega
  have hzz2 : ∀ j, 8 ≤ j → z j = 0 := fun j hj => by rw [hzz]; dsimp only; rw [hyz _ (by omega), hyz _ (by omega)]
  rw [e5, ← hzz]
  have e6 : nmD 8 z 8 + nmD 8 z 8 / 4294967296 = nmD 8 (fun j => z j + z (j + 4)) 8 := by
    rw [show (4294967296 : Nat) = 256 * 256 * 256 * 256 from rfl, ← Nat.div_div_eq_div_mul, ← Nat.div_div_eq_div_mul, ← Nat.div_div_eq_div_mul, sh z (fun j => by have := hz2 j; omega) hzz2, sh (fun j => z (j + 1)) (fun j => by have := hz2 (j + 1); omega) (fun j hj => hzz2 _ (by omega)), sh (fun j => z (j + 1 + 1)) (fun j => by have := hz2 (j + 1 + 1); omega) (fun j hj => hzz2 _ (by omega)), sh (fun j => z (j + 1 + 1 + 1)) (fun j => by have := hz2 (j + 1 + 1 + 1); omega) (fun j hj => hzz2 _ (by omega)), nmD_add]
  rw [e6]
  have e7 : nmD 8 (fun j => z j + z (j + 4)) 8 % 128 = z 0 + z 4 := by
    rw [nmD_s]
    have := hz2 0
    have := hz2 4
    simp only [Nat.zero_add]
    omega
  rw [e7, hzz, hy]
  have e8 : sumD b 64 = sumD x 8 := by
    rw [hx, hu, ht]
    have a1 := sumD_two (d := b) 32
    have a2 := sumD_two (d := fun j => b (2 * j) + b (2 * j + 1)) 16
    have a3 := sumD_two (d := fun j => (fun j => b (2 * j) + b (2 * j + 1)) (2 * j) + (fun j => b (2 * j) + b (2 * j + 1)) (2 * j + 1)) 8
    exact a1.trans (a2.trans a3)
  rw [e8]
  have h8 : x 8 = 0 := hxz 8 (by omega)
  show x 0 + x 1 + (x 2 + x 3) + (x 4 + x 5 + (x 6 + x 7)) = _
  simp only [sumD, it]
  omega
def tnL (x : Int64) : Nat := x.toBitVec.toNat
theorem tn_sub {a b : Int64} (h : tnL b ≤ tnL a) : tnL (a - b) = tnL a - tnL b := by
  unfold tnL at *
  rw [Int64.toBitVec_sub]
  exact BitVec.toNat_sub_of_le h
theorem tn_add {a b : Int64} (h : tnL a + tnL b < 18446744073709551616) : tnL (a + b) = tnL a + tnL b := by
  unfold tnL at *
  rw [Int64.toBitVec_add]
  exact BitVec.toNat_add_of_lt h
theorem tn_and {a b : Int64} : tnL (a &&& b) = tnL a &&& tnL b := by
  unfold tnL
  rw [Int64.toBitVec_and, BitVec.toNat_and]
theorem tn_ush1 {a : Int64} : tnL (ushL a 1) = tnL a / 2 := by
  unfold tnL ushL
  show (a.toBitVec >>> (1 : Nat)).toNat = _
  rw [BitVec.toNat_ushiftRight, Nat.shiftRight_eq_div_pow]
theorem tn_ush2 {a : Int64} : tnL (ushL a 2) = tnL a / 4 := by
  unfold tnL ushL
  show (a.toBitVec >>> (2 : Nat)).toNat = _
  rw [BitVec.toNat_ushiftRight, Nat.shiftRight_eq_div_pow]
theorem tn_ush4 {a : Int64} : tnL (ushL a 4) = tnL a / 16 := by
  unfold tnL ushL
  show (a.toBitVec >>> (4 : Nat)).toNat = _
  rw [BitVec.toNat_ushiftRight, Nat.shiftRight_eq_div_pow]
theorem tn_ush8 {a : Int64} : tnL (ushL a 8) = tnL a / 256 := by
  unfold tnL ushL
  show (a.toBitVec >>> (8 : Nat)).toNat = _
  rw [BitVec.toNat_ushiftRight, Nat.shiftRight_eq_div_pow]
theorem tn_ush16 {a : Int64} : tnL (ushL a 16) = tnL a / 65536 := by
  unfold tnL ushL
  show (a.toBitVec >>> (16 : Nat)).toNat = _
  rw [BitVec.toNat_ushiftRight, Nat.shiftRight_eq_div_pow]
theorem tn_ush32 {a : Int64} : tnL (ushL a 32) = tnL a / 4294967296 := by
  unfold tnL ushL
  show (a.toBitVec >>> (32 : Nat)).toNat = _
  rw [BitVec.toNat_ushiftRight, Nat.shiftRight_eq_div_pow]
theorem tn_127 {a : Int64} : a.toInt32 &&& 127 = nI (tnL a % 128) := by
  apply Int32.toBitVec_inj.1
  apply BitVec.eq_of_toNat_eq
  have e : a.toInt32.toBitVec = a.toBitVec.setWidth 32 := by
    rw [Int64.toBitVec_toInt32]
    first | rfl | exact BitVec.signExtend_eq_setWidth_of_le _ (by decide)
  have e2 : (nI (tnL a % 128)).toBitVec.toNat = (tnL a % 128) % 2 ^ 32 := BitVec.toNat_ofNat _ _
  rw [Int32.toBitVec_and, BitVec.toNat_and, e, BitVec.toNat_setWidth, e2]
  rw [show (127 : Int32).toBitVec.toNat = 2 ^ 7 - 1 from by decide, Nat.and_two_pow_sub_one_eq_mod]
  unfold tnL
  omega
/-- bitCount answers how many bits there are -/
theorem popI_n (v : Int64) : popI v = nI (ctB (btL v) 64) := by
  obtain ⟨b, hb⟩ : ∃ b : Nat → Nat, b = fun j => if v.toBitVec.getLsbD j = true then 1 else 0 := ⟨_, rfl⟩
  have hb1 : ∀ j, b j ≤ 1 := fun j => by rw [hb]; dsimp only; split <;> omega
  have hbz : ∀ j, 64 ≤ j → b j = 0 := fun j hj => by rw [hb]; dsimp only; rw [BitVec.getLsbD_of_ge _ _ hj]; rfl
  have hv : v.toBitVec.toNat = nmD 1 b 64 := by
    apply Nat.eq_of_testBit_eq
    intro i
    rw [nmD_bit (by decide) _ _ _ (fun j => by have := hb1 j; omega), Nat.div_one, Nat.mod_one, hb]
    show v.toBitVec.getLsbD i = _
    by_cases c : i < 64
    · have hx : ∀ x : Bool, Nat.testBit (if x = true then 1 else 0) 0 = x := by decide
      dsimp only
      rw [hx, decide_eq_true c]
      rfl
    · rw [BitVec.getLsbD_of_ge _ _ (by omega)]; simp [c]
  have hs : sumD b 64 = ctB (btL v) 64 := by
    have : ∀ n, n ≤ 64 → sumD b n = ctB (btL v) n := by
      intro n
      induction n with
      | zero => intro _; rfl
      | succ n ih =>
        intro hn
        rw [sumD_s, ctB_s, ih (by omega), bt_eq (by omega), hb]
        dsimp only
        split <;> rfl
    exact this 64 (Nat.le_refl _)
  rw [← hs, ← popN_ok b hb1 hbz, ← hv]
  have h64 : tnL v < 18446744073709551616 := v.toBitVec.isLt
  unfold popI popN
  dsimp only
  rw [tn_127]
  have hN : v.toBitVec.toNat = tnL v := rfl
  rw [hN]
  have c5 : tnL 6148914691236517205 = 6148914691236517205 := by decide
  have c3 : tnL 3689348814741910323 = 3689348814741910323 := by decide
  have c0 : tnL 1085102592571150095 = 1085102592571150095 := by decide
  have l1 : (tnL v / 2 &&& 6148914691236517205) ≤ tnL v / 2 := Nat.and_le_left
  have e1 : tnL (v - (ushL v 1 &&& 6148914691236517205)) = tnL v - (tnL v / 2 &&& 6148914691236517205) := by
    rw [tn_sub, tn_and, tn_ush1, c5]
    rw [tn_and, tn_ush1, c5]
    omega
  generalize v - (ushL v 1 &&& 6148914691236517205) = v1 at *
  rw [← e1]
  have b1 := (v1.toBitVec).isLt
  have hb1' : tnL v1 < 18446744073709551616 := b1
  have l2 : (tnL v1 &&& 3689348814741910323) ≤ 3689348814741910323 := Nat.and_le_right
  have l3 : (tnL v1 / 4 &&& 3689348814741910323) ≤ 3689348814741910323 := Nat.and_le_right
  have e2 : tnL ((v1 &&& 3689348814741910323) + (ushL v1 2 &&& 3689348814741910323)) = (tnL v1 &&& 3689348814741910323) + (tnL v1 / 4 &&& 3689348814741910323) := by
    rw [tn_add, tn_and, tn_and, tn_ush2, c3]
    rw [tn_and, tn_and, tn_ush2, c3]
    omega
  have b2 : tnL ((v1 &&& 3689348814741910323) + (ushL v1 2 &&& 3689348814741910323)) ≤ 7378697629483820646 := by rw [e2]; omega
  generalize (v1 &&& 3689348814741910323) + (ushL v1 2 &&& 3689348814741910323) = v2 at *
  rw [← e2]
  have l4 : (tnL v2 + tnL v2 / 16 &&& 1085102592571150095) ≤ 1085102592571150095 := Nat.and_le_right
  have e3 : tnL (v2 + ushL v2 4 &&& 1085102592571150095) = (tnL v2 + tnL v2 / 16 &&& 1085102592571150095) := by
    rw [tn_and, tn_add, tn_ush4, c0]
    rw [tn_ush4]
    omega
  have b3 : tnL (v2 + ushL v2 4 &&& 1085102592571150095) ≤ 1085102592571150095 := by rw [e3]; exact l4
  generalize (v2 + ushL v2 4 &&& 1085102592571150095) = v3 at *
  rw [← e3]
  have e4 : tnL (v3 + ushL v3 8) = tnL v3 + tnL v3 / 256 := by
    rw [tn_add, tn_ush8]
    rw [tn_ush8]
    omega
  have b4 : tnL (v3 + ushL v3 8) ≤ 2170205185142300190 := by rw [e4]; omega
  generalize v3 + ushL v3 8 = v4 at *
  rw [← e4]
  have e5 : tnL (v4 + ushL v4 16) = tnL v4 + tnL v4 / 65536 := by
    rw [tn_add, tn_ush16]
    rw [tn_ush16]
    omega
  have b5 : tnL (v4 + ushL v4 16) ≤ 4340410370284600380 := by rw [e5]; omega
  generalize v4 + ushL v4 16 = v5 at *
  rw [← e5]
  have e6 : tnL (v5 + ushL v5 32) = tnL v5 + tnL v5 / 4294967296 := by
    rw [tn_add, tn_ush32]
    rw [tn_ush32]
    omega
  rw [e6]
