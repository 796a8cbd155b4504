/-! NUMBERS of the machine as integers -/
def lZ (z : Int) : Int64 := Int64.ofInt z
def iZ (z : Int) : Int32 := Int32.ofInt z
theorem lZ_add (a b : Int) : lZ a + lZ b = lZ (a + b) := (Int64.ofInt_add a b).symm
theorem lZ_sub (a b : Int) : lZ a - lZ b = lZ (a - b) := (Int64.ofInt_sub a b).symm
theorem lZ_mul (a b : Int) : lZ a * lZ b = lZ (a * b) := (Int64.ofInt_mul a b).symm
theorem lZ_neg (a : Int) : -lZ a = lZ (-a) := (Int64.ofInt_neg a).symm
theorem iZ_add (a b : Int) : iZ a + iZ b = iZ (a + b) := (Int32.ofInt_add a b).symm
theorem iZ_sub (a b : Int) : iZ a - iZ b = iZ (a - b) := (Int32.ofInt_sub a b).symm
theorem iZ_mul (a b : Int) : iZ a * iZ b = iZ (a * b) := (Int32.ofInt_mul a b).symm
theorem iZ_neg (a : Int) : -iZ a = iZ (-a) := (Int32.ofInt_neg a).symm
theorem lZ_of (v : Int64) : lZ v.toInt = v := Int64.ofInt_toInt v
theorem iZ_of (v : Int32) : iZ v.toInt = v := Int32.ofInt_toInt v
/-- within the longs, within the ints -/
def lR (a : Int) : Prop := -9223372036854775808 ≤ a ∧ a ≤ 9223372036854775807
def iR (a : Int) : Prop := -2147483648 ≤ a ∧ a ≤ 2147483647
theorem lZ_toInt {a : Int} (h : lR a) : (lZ a).toInt = a := Int64.toInt_ofInt_of_le h.1 (by have := h.2; omega)
theorem iZ_toInt {a : Int} (h : iR a) : (iZ a).toInt = a := Int32.toInt_ofInt_of_le h.1 (by have := h.2; omega)
theorem lR_of (v : Int64) : lR v.toInt := ⟨Int64.minValue_le_toInt v, by have := Int64.toInt_lt v; omega⟩
theorem iR_of (v : Int32) : iR v.toInt := ⟨Int32.minValue_le_toInt v, by have := Int32.toInt_lt v; omega⟩
theorem lZ_le {a b : Int} (ha : lR a) (hb : lR b) : (lZ a ≤ lZ b) = (a ≤ b) := by rw [Int64.le_iff_toInt_le, lZ_toInt ha, lZ_toInt hb]
theorem lZ_lt {a b : Int} (ha : lR a) (hb : lR b) : (lZ a < lZ b) = (a < b) := by rw [Int64.lt_iff_toInt_lt, lZ_toInt ha, lZ_toInt hb]
theorem lZ_eq {a b : Int} (ha : lR a) (hb : lR b) : (lZ a = lZ b) = (a = b) := by rw [← Int64.toInt_inj, lZ_toInt ha, lZ_toInt hb]
theorem iZ_le {a b : Int} (ha : iR a) (hb : iR b) : (iZ a ≤ iZ b) = (a ≤ b) := by rw [Int32.le_iff_toInt_le, iZ_toInt ha, iZ_toInt hb]
theorem iZ_lt {a b : Int} (ha : iR a) (hb : iR b) : (iZ a < iZ b) = (a < b) := by rw [Int32.lt_iff_toInt_lt, iZ_toInt ha, iZ_toInt hb]
theorem iZ_eq {a b : Int} (ha : iR a) (hb : iR b) : (iZ a = iZ b) = (a = b) := by rw [← Int32.toInt_inj, iZ_toInt ha, iZ_toInt hb]
theorem lZ_div {a b : Int} (ha : lR a) (hb : lR b) (h : b ≠ -1) : lZ a / lZ b = lZ (a.tdiv b) := by
  have hm : (lZ b) ≠ -1 := by
    intro e
    apply h
    have := congrArg Int64.toInt e
    rw [lZ_toInt hb] at this
    exact this
  rw [← lZ_of (lZ a / lZ b), Int64.toInt_div_of_ne_right _ _ hm, lZ_toInt ha, lZ_toInt hb]
theorem iZ_div {a b : Int} (ha : iR a) (hb : iR b) (h : b ≠ -1) : iZ a / iZ b = iZ (a.tdiv b) := by
  have hm : (iZ b) ≠ -1 := by
    intro e
    apply h
    have := congrArg Int32.toInt e
    rw [iZ_toInt hb] at this
    exact this
  rw [← iZ_of (iZ a / iZ b), Int32.toInt_div_of_ne_right _ _ hm, iZ_toInt ha, iZ_toInt hb]
theorem lZ_mod {a b : Int} (ha : lR a) (hb : lR b) : lZ a % lZ b = lZ (a.tmod b) := by
  rw [← lZ_of (lZ a % lZ b), Int64.toInt_mod, lZ_toInt ha, lZ_toInt hb]
theorem iZ_mod {a b : Int} (ha : iR a) (hb : iR b) : iZ a % iZ b = iZ (a.tmod b) := by
  rw [← iZ_of (iZ a % iZ b), Int32.toInt_mod, iZ_toInt ha, iZ_toInt hb]
theorem iZ_l {a : Int} (h : iR a) : (iZ a).toInt64 = lZ a := Int32.toInt64_ofInt h.1 h.2
theorem lZ_i (a : Int) : (lZ a).toInt32 = iZ a := Int64.toInt32_ofInt
theorem nI_iZ (n : Nat) : nI n = iZ n := Int32.ofInt_eq_ofNat.symm
theorem nI_ll {n : Nat} (h : n < 2147483648) : (nI n).toInt64 = lZ n := by rw [nI_iZ, iZ_l ⟨by omega, by omega⟩]
/-- a fold over the numbers below n -/
def it {α : Type} (n : Nat) (s : α) (f : Nat → α → α) : α := match n with
  | 0 => s
  | n + 1 => f n (it n s f)
theorem it_0 {α : Type} (s : α) (f : Nat → α → α) : it 0 s f = s := rfl
theorem it_s {α : Type} (n : Nat) (s : α) (f : Nat → α → α) : it (n + 1) s f = f n (it n s f) := rfl
theorem it_cong {α : Type} {n : Nat} {s : α} {f q : Nat → α → α} (h : ∀ k x, k < n → f k x = q k x) : it n s f = it n s q := by
  induction n with
  | zero => rfl
  | succ n ih => rw [it_s, it_s, ih fun k x hk => h k x (by omega), h n _ (by omega)]
theorem it_inv {α : Type} (P : Nat → α → Prop) {n : Nat} {s : α} {f : Nat → α → α} (h0 : P 0 s) (h : ∀ k x, k < n → P k x → P (k + 1) (f k x)) : P n (it n s f) := by
  induction n with
  | zero => exact h0
  | succ n ih => exact h n _ (by omega) (ih fun k x hk => h k x (by omega))
theorem it_rel {α β : Type} (P : Nat → α → β → Prop) {n : Nat} {s : α} {t : β} {f : Nat → α → α} {q : Nat → β → β} (h0 : P 0 s t) (h : ∀ k x y, k < n → P k x y → P (k + 1) (f k x) (q k y)) : P n (it n s f) (it n t q) := by
  induction n with
  | zero => exact h0
  | succ n ih => exact h n _ _ (by omega) (ih fun k x y hk => h k x y (by omega))
/-- a loop of the machine as a fold -/
theorem hf_itf {α β : Type} (q : Nat → α → β) (n : Nat) (s : α) (f : Nat → α → α) (P : Nat → α → Prop) (h0 : P 0 s) (hP : ∀ k x, k < n → P k x → P (k + 1) (f k x)) (h : ∀ k x, k < n → P k x → q k x = q (k + 1) (f k x)) : q 0 s = q n (it n s f) := by
  induction n with
  | zero => rfl
  | succ n ih => exact (ih (fun k x hk => hP k x (by omega)) fun k x hk => h k x (by omega)).trans (h n _ (by omega) (it_inv P h0 fun k x hk => hP k x (by omega)))
theorem q10 : ((1 : Int32) = 0) = False := eq_false (by decide)
theorem q_ne (a b : Nat) : (a = a + (b + 1)) = False := eq_false (by omega)
