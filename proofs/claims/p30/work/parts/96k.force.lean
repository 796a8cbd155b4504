def plZ (G S p x y : Int) : Int := (G * p).tdiv (sqZ x y + S * S)
def pvX (G S : Nat) (R : R4) (a b : Nat) : Int64 := lZ (plZ G S (wyZ (R.1 a) (R.1 b)) (wyZ (R.1 a) (R.1 b)) (wyZ (R.2.1 a) (R.2.1 b)))
def pvY (G S : Nat) (R : R4) (a b : Nat) : Int64 := lZ (plZ G S (wyZ (R.2.1 a) (R.2.1 b)) (wyZ (R.1 a) (R.1 b)) (wyZ (R.2.1 a) (R.2.1 b)))
def foA (p : Nat → Nat → Int64) (a b : Nat) (F : Nat → Int64) : Nat → Int64 := adP F a b (p a b)
def foS (p : Nat → Nat → Int64) (c : Nat) : Nat → Int64 := lpB (foA p) c (fun _ => 0)
section
variable {σ : Sg} {R : R4} {g : hf_G} {I I2 : hf_I} {J J2 : hf_J} {s k c a b m G S : Nat} {i j : Int32} {p P : Nat → Nat → Int64} {F F2 : Nat → Int64} {u v w x y z : Int}
theorem adP_k {q : Int64} : adP F a b q k = F k + (if k = b then -q else if k = a then q else 0) := by
  unfold adP
  by_cases h1 : k = b
  · subst h1
    rw [up_s, if_pos rfl]
  · rw [up_n h1, if_neg h1]
    by_cases h2 : k = a
    · subst h2
      rw [up_s, if_pos rfl]
    · rw [up_n h2, if_neg h2, Int64.add_zero]
theorem l_arc (a b c : Int64) : a + b + c = a + c + b := by rw [Int64.add_assoc, Int64.add_comm b c, ← Int64.add_assoc]
theorem foA_c : ∀ a b a2 b2 F, foA p a b (foA p a2 b2 F) = foA p a2 b2 (foA p a b F) := by
  intro a b a2 b2 F
  funext k
  unfold foA
  rw [adP_k, adP_k, adP_k, adP_k, l_arc]
theorem foA_k (h : F k = F2 k) (hp : p a b = P a b) : foA p a b F k = foA P a b F2 k := by
  unfold foA
  rw [adP_k, adP_k, h, hp]
theorem lpB_k (hp : ∀ a b, a < b → b < c → p a b = P a b) (h : F k = F2 k) : lpB (foA p) c F k = lpB (foA P) c F2 k :=
  it_rel (fun (_ : Nat) (x y : Nat → Int64) => x k = y k) h fun t x y ht hxy => it_rel (fun (_ : Nat) (x y : Nat → Int64) => x k = y k) hxy fun a x y ha hxy => foA_k hxy (hp a (t + 1) (by omega) (by omega))
theorem fo_c (hp : ∀ a b, a < b → b < c → p a b = P a b) (h : F k = 0) : fr0 c p F k = foS P c k := by
  have e : fr0 c p F = lpA (foA p) c c F := rfl
  rw [e, lp_eq foA_c]
  exact lpB_k hp h
theorem pl_z (hG : G ≤ 10000) (hS : 10 ≤ S ∧ S ≤ 1000) (hp : -2048 ≤ z ∧ z ≤ 2048) (hx : -2048 ≤ x ∧ x ≤ 2048) (hy : -2048 ≤ y ∧ y ≤ 2048) : by0 (lZ G * lZ z) (sqL (lZ x) (lZ y) + lZ S * lZ S) = lZ (plZ G S z x y) ∧ pbI (nI G) (nI S) (iZ z) (iZ x) (iZ y) = iZ (plZ G S z x y) ∧ (-20480000 ≤ plZ G S z x y ∧ plZ G S z x y ≤ 20480000) ∧ 100 ≤ sqZ x y + S * S ∧ sqZ x y + S * S ≤ 9388608 := by
  have h1 := sqZ_rng hx hy
  have h2 : (10 * 10 : Nat) ≤ S * S := Nat.mul_le_mul hS.1 hS.1
  have h3 : S * S ≤ 1000 * 1000 := Nat.mul_le_mul hS.2 hS.2
  have h4 : ((S * S : Nat) : Int) = (S : Int) * S := rfl
  have h5 : 100 ≤ sqZ x y + S * S ∧ sqZ x y + S * S ≤ 9388608 := by rw [← h4]; omega
  have h6 := mul_rng (w := G) (v := z) (a := 10000) (b := 2048) (by omega) (by omega)
  have h7 : -20480000 ≤ plZ G S z x y ∧ plZ G S z x y ≤ 20480000 := by
    unfold plZ
    generalize (G : Int) * z = q at h6
    generalize sqZ x y + (S : Int) * S = d at h5
    by_cases c : 0 ≤ q
    · rw [td_pos c]
      have i1 := Int.ediv_le_self d c
      have i2 := Int.ediv_nonneg c (show 0 ≤ d by omega)
      omega
    · have i1 := Int.ediv_le_self d (show 0 ≤ -q by omega)
      have i2 := Int.ediv_nonneg (show 0 ≤ -q by omega) (show 0 ≤ d by omega)
      have i3 := Int.neg_tdiv (-q) d
      rw [Int.neg_neg, td_pos (show 0 ≤ -q by omega)] at i3
      omega
  refine ⟨?_, ?_, h7, h5⟩
  · unfold by0
    rw [sqL_z, lZ_mul, lZ_mul, lZ_add, show (0 : Int64) = lZ 0 from rfl]
    have k3 := lZ_eq (a := sqZ x y + S * S) (b := 0) (lRs (by omega) (by omega)) (lRs (by decide) (by decide))
    rw [if_neg (fun e => (by omega : ¬ sqZ x y + (S : Int) * S = 0) (k3.mp e)), lZ_div (lRs (by omega) (by omega)) (lRs (by omega) (by omega)) (by omega)]
    rfl
  · unfold pbI
    rw [sqI_z, nI_iZ, nI_iZ, iZ_mul, iZ_mul, iZ_add, iZ_div ⟨by omega, by omega⟩ ⟨by omega, by omega⟩ (by omega)]
    rfl
theorem wy2 : -2048 ≤ wyZ u v ∧ wyZ u v ≤ 2048 := by have := wyZ_rng (a := u) (b := v); omega
theorem RC_pl (hC : RC σ I J) : J 238 0 = lZ (sq σ 3) ∧ J 238 1 = lZ (sq σ 4) := ⟨hC.1.2.2.2.1, hC.1.2.2.2.2.1⟩
theorem sok_G (hσ : SOK σ) : sq σ 3 ≤ 10000 := (sok_r hσ (i := 3) (by decide)).2
theorem sok_S (hσ : SOK σ) : 10 ≤ sq σ 4 ∧ sq σ 4 ≤ 1000 := sok_r hσ (i := 4) (by decide)
/-- forces as the class and as the model find them -/
def foX (σ : Sg) : Nat → Int64 := foS (pvX (sq σ 3) (sq σ 4) (nowR σ)) (sN σ)
def foY (σ : Sg) : Nat → Int64 := foS (pvY (sq σ 3) (sq σ 4) (nowR σ)) (sN σ)
theorem prX_z (hG : G ≤ 10000) (hS : 10 ≤ S ∧ S ≤ 1000) (h : RWc J c R) (hR : R4ok c R) (ha : a < c) (hb : b < c) : prX (lZ G) (lZ S) (J 4) (J 6) a b = pvX G S R a b := by
  obtain ⟨w1, w2⟩ := way_c h hR ha hb
  unfold prX plX wkL pvX
  rw [w1, w2]
  exact (pl_z hG hS wy2 wy2 wy2).1
theorem prY_z (hG : G ≤ 10000) (hS : 10 ≤ S ∧ S ≤ 1000) (h : RWc J c R) (hR : R4ok c R) (ha : a < c) (hb : b < c) : prY (lZ G) (lZ S) (J 4) (J 6) a b = pvY G S R a b := by
  obtain ⟨w1, w2⟩ := way_c h hR ha hb
  unfold prY plY wkL pvY
  rw [w1, w2]
  exact (pl_z hG hS wy2 wy2 wy2).1
end
