/-- sets of halos, marked from above -/
def isS (nx : Nat → Nat → Option (Nat × Nat)) (S : Nat → Nat → Bool) (m o : Nat) : Bool := match nx m o with
  | none => false
  | some (j, h) => S j h
def cnS (nx : Nat → Nat → Option (Nat × Nat)) (cn : Nat → Nat) (al : Bool) (m : Nat) (S : Nat → Nat → Bool) : Nat → Nat → Bool := fun j h => if j = m ∧ h < cn m then isS nx S m h && al else S j h
def cnZ (nx : Nat → Nat → Option (Nat × Nat)) (cn : Nat → Nat) (al : Bool) : Nat → (Nat → Nat → Bool) → Nat → Nat
  | 0, _, z => z
  | m + 1, S, z => cnZ nx cn al m (cnS nx cn al m S) (z + ctB (isS nx S m) (cn m))
section
variable {σ : Sg} {I I2 : hf_I} {J J2 : hf_J} {g : hf_G} {c k f l p n P t q e o m : Nat} {i j x y : Int32} {cn : Nat → Nat} {nx nx2 : Nat → Nat → Option (Nat × Nat)} {co co2 : Nat → Nat → Int32} {Hs : Nat → Nat → Int64} {B B0 : Nat → Int32} {S : Nat → Nat → Bool} {al : Bool} {fr : Nat → Nat → Option (Nat × Nat)}
theorem nI_m2n (h : p < 2000) : ¬ nI p = -1 := by rw [nI_iZ, show (-1 : Int32) = iZ (-1) from rfl, iZ_eq (iRs (by omega) (by omega)) (iRs (by omega) (by omega))]; omega
theorem it_m1 {F : Nat → Nat → Int32} : ∀ (n : Nat) (v : Int32), it n (v, (-1 : Int32)) (fun _ (q : Int32 × Int32) => if q.2 = -1 then q else (q.1 + 1, F (q.2.toNatClampNeg / 100) (q.2.toNatClampNeg % 100))) = (v, -1)
  | 0, v => rfl
  | n + 1, v => by rw [it_s, it_m1 n v]; rfl
theorem ch_eq {F : Nat → Nat → Int32} (hF : ∀ e o, e < P → o < cn e → F e o = cdI (fr e o)) (hf : ∀ e o j x, e < P → o < cn e → fr e o = some (j, x) → j < e ∧ x < cn j) (hP : P ≤ 12) (hcn : ∀ e, e < P → cn e ≤ 64) : ∀ (n e o : Nat) (v : Int32), e < n → e < P → o < cn e → (it n (v, nI (100 * e + o)) (fun _ (q : Int32 × Int32) => if q.2 = -1 then q else (q.1 + 1, F (q.2.toNatClampNeg / 100) (q.2.toNatClampNeg % 100)))).1 = v + nI (chN fr n e o)
  | 0, _, _, _, h, _, _ => by omega
  | n + 1, e, o, v, h, he, ho => by
    have hc := hcn e he
    rw [it_sh]
    dsimp only
    rw [if_neg (nI_m2n (show 100 * e + o < 2000 by omega)), z_cl (show 100 * e + o < 2147483648 by omega), show (100 * e + o) / 100 = e by omega, show (100 * e + o) % 100 = o by omega, hF e o he ho]
    cases h2 : fr e o with
    | none =>
      show (it n (v + 1, (-1 : Int32)) _).1 = v + nI (chN fr (n + 1) e o)
      rw [it_m1 n]
      unfold chN
      rw [h2]
      rfl
    | some w =>
      obtain ⟨a, b⟩ := w
      obtain ⟨h3, h4⟩ := hf e o a b he ho h2
      have ih := ch_eq hF hf hP hcn n a b (v + 1) (by omega) (by omega) h4
      show (it n (v + 1, nI (100 * a + b)) _).1 = v + nI (chN fr (n + 1) e o)
      rw [ih]
      have e1 : chN fr (n + 1) e o = 1 + chN fr n a b := by rw [chN, h2]
      rw [e1, ← nI_add, Int32.add_assoc]
      rfl
theorem ch_fuel (hf : ∀ e o j x, fr e o = some (j, x) → j < e) : ∀ (n m e o : Nat), e < n → e < m → chN fr n e o = chN fr m e o
  | 0, _, _, _, h, _ => by omega
  | n + 1, 0, _, _, _, h => by omega
  | n + 1, m + 1, e, o, h1, h2 => by
    rw [chN, chN]
    cases h3 : fr e o with
    | none => rfl
    | some w =>
      obtain ⟨a, b⟩ := w
      have := hf e o a b h3
      dsimp only
      rw [ch_fuel hf n m a b (by omega) (by omega)]
end
