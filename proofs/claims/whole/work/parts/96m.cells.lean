/-! FORCES BY CELLS -/
def ceN (R : R4) (m : Nat) : Nat := R.1 m / 1024 * 4 + R.2.1 m / 1024
def nbB (a b : Nat) : Bool := inN (nI a) (nI b)
def csN (w : Nat → Nat) (R : R4) (t c : Nat) : Nat := it c 0 fun m s => if ceN R m = t then s + w m else s
theorem nb_ok : ∀ a, a < 4 → ∀ b, b < 4 → ∀ d, d < 4 → ∀ e, e < 4 → (decide (¬ fmd (lZ (a : Nat) - lZ (d : Nat)) 4 = 2) && decide (¬ fmd (lZ (b : Nat) - lZ (e : Nat)) 4 = 2)) = nbB (a * 4 + b) (d * 4 + e) := by decide +kernel
theorem cell_ok : ∀ a, a < 4 → ∀ b, b < 4 → nI (a * 4 + b) / 4 = nI a ∧ rmI (nI (a * 4 + b)) 4 = nI b ∧ (lZ (a : Nat) * 4 + lZ (b : Nat)).toInt32 = nI (a * 4 + b) ∧ 4 * nI a + nI b = nI (a * 4 + b) := by decide +kernel
section
variable {σ : Sg} {R : R4} {g : hf_G} {I I2 : hf_I} {J J2 : hf_J} {s k c a b m p G S t n : Nat} {i j : Int32} {w w2 : Nat → Nat}
theorem lZ_d {x : Nat} (h : x < 4096) : lZ x / 1024 = lZ (x / 1024 : Nat) := by
  rw [show (1024 : Int64) = lZ 1024 from rfl, lZ_div (lRs (by omega) (by omega)) (lRs (by decide) (by decide)) (by decide), td_pos (by omega)]
  rfl
theorem nI_d {x : Nat} (h : x < 4096) : nI x / 1024 = nI (x / 1024) := by
  rw [nI_iZ, nI_iZ, show (1024 : Int32) = iZ 1024 from rfl, iZ_div ⟨by omega, by omega⟩ ⟨by decide, by decide⟩ (by decide), td_pos (by omega)]
  rfl
theorem ceN_lt (hR : R4ok c R) (hm : m < c) : ceN R m < 16 := by
  obtain ⟨r1, r2⟩ := hR m hm
  unfold ceN
  omega
theorem neL_z (h : RWc J c R) (hR : R4ok c R) (hk : k < c) (hm : m < c) : neL (J 4) (J 6) k m = nbB (ceN R k) (ceN R m) := by
  obtain ⟨h1, h2, -, -⟩ := h k hk
  obtain ⟨h3, h4, -, -⟩ := h m hm
  obtain ⟨r1, r2⟩ := hR k hk
  obtain ⟨r3, r4⟩ := hR m hm
  unfold neL lnL ceN
  rw [h1, h2, h3, h4, lZ_d r1, lZ_d r2, lZ_d r3, lZ_d r4]
  exact nb_ok _ (by omega) _ (by omega) _ (by omega) _ (by omega)
theorem clL_z (h : RWc J c R) (hR : R4ok c R) (hm : m < c) : clL (J 4) (J 6) m = nI (ceN R m) := by
  obtain ⟨h3, h4, -, -⟩ := h m hm
  obtain ⟨r3, r4⟩ := hR m hm
  unfold clL ceN
  rw [h3, h4, lZ_d r3, lZ_d r4]
  exact (cell_ok _ (by omega) _ (by omega)).2.2.1
theorem ceI_z (h : RWm I J c R) (hR : R4ok c R) (hm : m < c) : ceI I m = nI (ceN R m) := by
  obtain ⟨h3, h4, -, -⟩ := h m hm
  obtain ⟨r3, r4⟩ := hR m hm
  unfold ceI ceN
  rw [h3, h4, nI_d r3, nI_d r4]
  exact (cell_ok _ (by omega) _ (by omega)).2.2.2
theorem csN_s : csN w R t (n + 1) = if ceN R n = t then csN w R t n + w n else csN w R t n := rfl
theorem csN_le (hw : ∀ m, m < n → w m ≤ a) : csN w R t n ≤ a * csN (fun _ => 1) R t n := by
  induction n with
  | zero => exact Nat.le_refl _
  | succ n ih =>
    have h1 := ih (fun m hm => hw m (by omega))
    have h2 := hw n (by omega)
    rw [csN_s, csN_s]
    split
    · rw [Nat.mul_add, Nat.mul_one]; omega
    · exact h1
theorem csN_n : csN (fun _ => 1) R t n ≤ n := by
  induction n with
  | zero => exact Nat.le_refl _
  | succ n ih =>
    rw [csN_s]
    split <;> omega
theorem cs1_z {f F : Nat → Int64} (h : RWc J c R) (hR : R4ok c R) (hk : k < c) (hF : F t = 0) (hf : ∀ m, m < c → f m = lZ (w m)) : ∀ n, n ≤ c → cs1 n (neL (J 4) (J 6) k) (ceN R) f F t = if nbB (ceN R k) t = true then 0 else lZ (csN w R t n)
  | 0, _ => by
    have e : cs1 0 (neL (J 4) (J 6) k) (ceN R) f F t = F t := rfl
    rw [e, hF]
    split <;> rfl
  | n + 1, hn => by
    have ih := cs1_z h hR hk hF hf n (by omega)
    have e : cs1 (n + 1) (neL (J 4) (J 6) k) (ceN R) f F = if neL (J 4) (J 6) k n = true then cs1 n (neL (J 4) (J 6) k) (ceN R) f F else up (cs1 n (neL (J 4) (J 6) k) (ceN R) f F) (ceN R n) (cs1 n (neL (J 4) (J 6) k) (ceN R) f F (ceN R n) + f n) := rfl
    rw [e, neL_z h hR hk (by omega : n < c), csN_s]
    by_cases c1 : nbB (ceN R k) (ceN R n) = true
    · rw [if_pos c1, ih]
      by_cases c2 : nbB (ceN R k) t = true
      · rw [if_pos c2, if_pos c2]
      · rw [if_neg c2, if_neg c2, if_neg (fun e : ceN R n = t => c2 (by rw [← e]; exact c1))]
    · rw [if_neg c1]
      by_cases c3 : ceN R n = t
      · rw [c3, up_s, ih]
        rw [c3] at c1
        rw [if_neg c1, if_neg c1, if_pos rfl, hf n (by omega), lZ_add]
        rfl
      · rw [up_n (fun e => c3 e.symm), ih, if_neg c3]
theorem fpS_z (h : RWm I J c R) (hR : R4ok c R) (hm : m < c) (ht : t < 16) {q : Int32 × Int32 × Int32} : fpS I t m q = if ceN R m = t then (q.1 + nI (R.1 m % 1024), q.2.1 + nI (R.2.1 m % 1024), q.2.2 + 1) else (q.1 + 0, q.2.1 + 0, q.2.2 + 0) := by
  obtain ⟨h3, h4, -, -⟩ := h m hm
  obtain ⟨r3, r4⟩ := hR m hm
  have hc16 := ceN_lt hR hm
  unfold fpS
  have hq : (nI (ceN R m) = nI t) = (ceN R m = t) := z_ie (by omega) (by omega)
  rw [ceI_z h hR hm]
  by_cases e : ceN R m = t
  · rw [if_pos (hq.mpr e), if_pos e, h3, h4, ← e]
    unfold ceN
    obtain ⟨o1, o2, -, -⟩ := cell_ok (R.1 m / 1024) (by omega) (R.2.1 m / 1024) (by omega)
    rw [o1, o2, nI_iZ, nI_iZ, nI_iZ, nI_iZ, nI_iZ, nI_iZ, show (1024 : Int32) = iZ 1024 from rfl, iZ_mul, iZ_sub, iZ_mul, iZ_sub]
    rw [show (R.1 m : Int) - ((R.1 m / 1024 : Nat) : Int) * 1024 = ((R.1 m % 1024 : Nat) : Int) by omega, show (R.2.1 m : Int) - ((R.2.1 m / 1024 : Nat) : Int) * 1024 = ((R.2.1 m % 1024 : Nat) : Int) by omega]
  · rw [if_neg (fun q => e (hq.mp q)), if_neg e]
theorem fpX_z (h : RWm I J c R) (hR : R4ok c R) (ht : t < 16) : ∀ n, n ≤ c → fpX I t n = (nI (csN (fun m => R.1 m % 1024) R t n), nI (csN (fun m => R.2.1 m % 1024) R t n), nI (csN (fun _ => 1) R t n))
  | 0, _ => rfl
  | n + 1, hn => by
    have ih := fpX_z h hR ht n (by omega)
    have e : fpX I t (n + 1) = fpS I t n (fpX I t n) := rfl
    rw [e, ih, fpS_z h hR (by omega) ht, csN_s, csN_s, csN_s]
    by_cases c3 : ceN R n = t
    · rw [if_pos c3, if_pos c3, if_pos c3, if_pos c3, show (1 : Int32) = nI 1 from rfl, nI_add, nI_add, nI_add]
    · rw [if_neg c3, if_neg c3, if_neg c3, if_neg c3, Int32.add_zero, Int32.add_zero, Int32.add_zero]
theorem it_eq {α : Type} {n : Nat} {s s2 : α} {f q : Nat → α → α} (h0 : s = s2) (h : ∀ k x, k < n → f k x = q k x) : it n s f = it n s2 q := by
  subst h0
  exact it_cong h
/-- what the far cell t adds -/
def mnX (R : R4) (t c : Nat) : Nat := t / 4 * 1024 + csN (fun m => R.1 m % 1024) R t c / csN (fun _ => 1) R t c
def mnY (R : R4) (t c : Nat) : Nat := t % 4 * 1024 + csN (fun m => R.2.1 m % 1024) R t c / csN (fun _ => 1) R t c
def fvX (G S : Nat) (R : R4) (k c t : Nat) : Int64 := lZ (plZ G S (wyZ (R.1 k) (mnX R t c)) (wyZ (R.1 k) (mnX R t c)) (wyZ (R.2.1 k) (mnY R t c)))
def fvY (G S : Nat) (R : R4) (k c t : Nat) : Int64 := lZ (plZ G S (wyZ (R.2.1 k) (mnY R t c)) (wyZ (R.1 k) (mnX R t c)) (wyZ (R.2.1 k) (mnY R t c)))
def fcX (G S : Nat) (R : R4) (c k : Nat) : Int64 := it 16 (it c 0 fun m s => if nbB (ceN R k) (ceN R m) = true then s + pvX G S R k m else s) fun t s => if nbB (ceN R k) t = true then s else s + (if csN (fun _ => 1) R t c = 0 then 0 else fvX G S R k c t * lZ (csN (fun _ => 1) R t c))
def fcY (G S : Nat) (R : R4) (c k : Nat) : Int64 := it 16 (it c 0 fun m s => if nbB (ceN R k) (ceN R m) = true then s + pvY G S R k m else s) fun t s => if nbB (ceN R k) t = true then s else s + (if csN (fun _ => 1) R t c = 0 then 0 else fvY G S R k c t * lZ (csN (fun _ => 1) R t c))
theorem mn_lt (ht : t < 16) (hc : ¬ csN (fun _ => 1) R t c = 0) : mnX R t c < 4096 ∧ mnY R t c < 4096 ∧ csN (fun m => R.1 m % 1024) R t c / csN (fun _ => 1) R t c ≤ 1023 ∧ csN (fun m => R.2.1 m % 1024) R t c / csN (fun _ => 1) R t c ≤ 1023 := by
  have h1 := csN_le (w := fun m => R.1 m % 1024) (a := 1023) (R := R) (t := t) (n := c) (fun m _ => by omega)
  have h2 := csN_le (w := fun m => R.2.1 m % 1024) (a := 1023) (R := R) (t := t) (n := c) (fun m _ => by omega)
  have h3 : csN (fun m => R.1 m % 1024) R t c / csN (fun _ => 1) R t c ≤ 1023 := Nat.div_le_of_le_mul (by rw [Nat.mul_comm]; exact h1)
  have h4 : csN (fun m => R.2.1 m % 1024) R t c / csN (fun _ => 1) R t c ≤ 1023 := Nat.div_le_of_le_mul (by rw [Nat.mul_comm]; exact h2)
  unfold mnX mnY
  refine ⟨?_, ?_, h3, h4⟩ <;> omega
theorem sN_b (hc2 : c ≤ 64) (hw : ∀ m, w m ≤ 1023) : csN w R t c ≤ 65472 := by
  have h1 := csN_le (R := R) (t := t) (n := c) (fun m _ => hw m)
  have h2 := csN_n (R := R) (t := t) (n := c)
  have : 1023 * csN (fun _ => 1) R t c ≤ 1023 * 64 := Nat.mul_le_mul_left _ (by omega)
  omega
theorem div_L {x y : Nat} (hx : x ≤ 65472) (hy : y ≤ 64) (h0 : ¬ y = 0) : by0 (lZ x) (lZ y) = lZ (x / y : Nat) ∧ nI x / nI y = nI (x / y) ∧ ¬ nI y = 0 := by
  have k3 := lZ_eq (a := (y : Int)) (b := 0) (lRs (by omega) (by omega)) (lRs (by decide) (by decide))
  have k4 : (nI y = nI 0) = (y = 0) := z_ie (by omega) (by omega)
  refine ⟨?_, ?_, fun e => h0 (k4.mp e)⟩
  · unfold by0
    rw [show (0 : Int64) = lZ 0 from rfl, if_neg (fun e => h0 (by have := k3.mp e; omega)), lZ_div (lRs (by omega) (by omega)) (lRs (by omega) (by omega)) (by omega), td_pos (by omega)]
    rfl
  · rw [nI_iZ, nI_iZ, nI_iZ, iZ_div ⟨by omega, by omega⟩ ⟨by omega, by omega⟩ (by omega), td_pos (by omega)]
    rfl
theorem c16 : ∀ t, t < 16 → (nI t / 4).toInt64 = lZ (t / 4 : Nat) ∧ (rmI (nI t) 4).toInt64 = lZ (t % 4 : Nat) ∧ nI t / 4 = nI (t / 4) ∧ rmI (nI t) 4 = nI (t % 4) := by decide +kernel
theorem pcX_z (hc2 : c ≤ 64) (ht : t < 16) (hc : ¬ csN (fun _ => 1) R t c = 0) : pcX t (lZ (csN (fun _ => 1) R t c)) (lZ (csN (fun m => R.1 m % 1024) R t c)) = lZ (mnX R t c) ∧ pcY t (lZ (csN (fun _ => 1) R t c)) (lZ (csN (fun m => R.2.1 m % 1024) R t c)) = lZ (mnY R t c) ∧
    nI t / 4 * 1024 + nI (csN (fun m => R.1 m % 1024) R t c) / nI (csN (fun _ => 1) R t c) = nI (mnX R t c) ∧ rmI (nI t) 4 * 1024 + nI (csN (fun m => R.2.1 m % 1024) R t c) / nI (csN (fun _ => 1) R t c) = nI (mnY R t c) ∧ ¬ nI (csN (fun _ => 1) R t c) = 0 := by
  have n1 := csN_n (R := R) (t := t) (n := c)
  obtain ⟨d1, d2, d3⟩ := div_L (sN_b (w := fun m => R.1 m % 1024) (R := R) (t := t) hc2 (fun m => by omega)) (by omega) hc
  obtain ⟨d4, d5, -⟩ := div_L (sN_b (w := fun m => R.2.1 m % 1024) (R := R) (t := t) hc2 (fun m => by omega)) (by omega) hc
  obtain ⟨e1, e2, e3, e4⟩ := c16 t ht
  unfold pcX pcY mnX mnY
  rw [d1, d4, d2, d5, e1, e2, e3, e4, show (1024 : Int64) = lZ 1024 from rfl, show (1024 : Int32) = nI 1024 from rfl, lZ_mul, lZ_add, lZ_mul, lZ_add, nI_mul, nI_add, nI_mul, nI_add]
  exact ⟨rfl, rfl, rfl, rfl, d3⟩
end
