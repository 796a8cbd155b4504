section
variable {σ : Sg} {R : R4} {g : hf_G} {I I2 : hf_I} {J J2 : hf_J} {s k c a b m p G S t : Nat} {i j : Int32}
theorem faJ_n (h : p ≠ 240 ∧ p ≠ 242) : faJ J c p = J p := w2_n h.1 h.2
theorem faJ_k (hGJ : J 238 0 = lZ G) (hSJ : J 238 1 = lZ S) (hG : G ≤ 10000) (hS : 10 ≤ S ∧ S ≤ 1000) (h : RWc J c R) (hR : R4ok c R) (hc2 : c ≤ 64) (hk : k < c) : faJ J c 240 k = foS (pvX G S R) c k ∧ faJ J c 242 k = foS (pvY G S R) c k := by
  unfold faJ
  rw [w2_a (by decide), w2_b, hGJ, hSJ]
  exact ⟨fo_c (fun a b h1 h2 => prX_z hG hS h hR (by omega) h2) (if_pos (by omega)), fo_c (fun a b h1 h2 => prY_z hG hS h hR (by omega) h2) (if_pos (by omega))⟩
/-- one step -/
def stU (G S c : Nat) (R : R4) (k : Nat) : Int64 := R.2.2.1 k + foS (pvX G S R) c k
def stW (G S c : Nat) (R : R4) (k : Nat) : Int64 := R.2.2.2 k + foS (pvY G S R) c k
def stS (G S c a : Nat) (R : R4) : R4 := ((fun k => ((lZ (R.1 k) + stU G S c R k / (16 * (nI a).toInt64)).toInt % 4096).toNat), (fun k => ((lZ (R.2.1 k) + stW G S c R k / (16 * (nI a).toInt64)).toInt % 4096).toNat), stU G S c R, stW G S c R)
def stN (G S c a : Nat) (R : R4) (t : Nat) : R4 := it t R fun k R => stS G S c (a + k) R
theorem stS_ok : R4ok c (stS G S c a R) := fun k _ => ⟨md_lt, md_lt⟩
theorem stN_ok (hR : R4ok c R) : ∀ t, R4ok c (stN G S c a R t)
  | 0 => hR
  | t + 1 => stS_ok
theorem age_nz (h1 : 1 ≤ a) (h2 : a ≤ 1000) : ¬ 16 * (nI a).toInt64 = 0 := by
  rw [nI_ll (by omega), show (16 : Int64) = lZ 16 from rfl, show (0 : Int64) = lZ 0 from rfl, lZ_mul, lZ_eq (lRs (by omega) (by omega)) (lRs (by decide) (by decide))]
  omega
theorem spJ_n (h : p ≠ 4 ∧ p ≠ 6 ∧ p ≠ 8 ∧ p ≠ 10 ∧ p ≠ 240 ∧ p ≠ 242) : spJ J c i p = J p := by
  unfold spJ mvJ haJ rwm2
  rw [rwm_ne h.2.1, rwm_ne h.1, rwm_ne h.2.2.2.1, rwm_ne h.2.2.1, faJ_n h.2.2.2.2]
theorem st_c (hGJ : J 238 0 = lZ G) (hSJ : J 238 1 = lZ S) (hG : G ≤ 10000) (hS : 10 ≤ S ∧ S ≤ 1000) (h : RWc J c R) (hR : R4ok c R) (hc2 : c ≤ 64) (h1 : 1 ≤ a) (h2 : a ≤ 1000) : RWc (spJ J c (nI a)) c (stS G S c a R) := by
  intro k hk
  obtain ⟨f1, f2⟩ := faJ_k hGJ hSJ hG hS h hR hc2 hk
  obtain ⟨v1, v2, v3, v4⟩ := h k hk
  have hz := age_nz h1 h2
  have e8 : haJ (faJ J c) c 8 k = stU G S c R k := by
    unfold haJ rwm2
    rw [rwm_ne (by decide), rwm_lt hk, f1, faJ_n (by decide), v3]
    rfl
  have e10 : haJ (faJ J c) c 10 k = stW G S c R k := by
    unfold haJ rwm2
    rw [rwm_lt hk, f2, faJ_n (by decide), v4]
    rfl
  have e4 : haJ (faJ J c) c 4 k = lZ (R.1 k) := by
    unfold haJ rwm2
    rw [rwm_ne (by decide), rwm_ne (by decide), faJ_n (by decide), v1]
  have e6 : haJ (faJ J c) c 6 k = lZ (R.2.1 k) := by
    unfold haJ rwm2
    rw [rwm_ne (by decide), rwm_ne (by decide), faJ_n (by decide), v2]
  unfold spJ mvJ rwm2
  refine ⟨?_, ?_, ?_, ?_⟩
  · rw [rwm_ne (by decide), rwm_lt hk, e4, e8, plc_n]
    unfold by0
    rw [if_neg hz]
    rfl
  · rw [rwm_lt hk, e6, e10, plc_n]
    unfold by0
    rw [if_neg hz]
    rfl
  · rw [rwm_ne (by decide), rwm_ne (by decide), e8]
    rfl
  · rw [rwm_ne (by decide), rwm_ne (by decide), e10]
    rfl
theorem st_cN (hGJ : J 238 0 = lZ G) (hSJ : J 238 1 = lZ S) (hG : G ≤ 10000) (hS : 10 ≤ S ∧ S ≤ 1000) (h : RWc J c R) (hR : R4ok c R) (hc2 : c ≤ 64) (h1 : 1 ≤ a) : ∀ t, a + t ≤ 1001 → RWc (stJ J c a t) c (stN G S c a R t) ∧ ∀ p, (p ≠ 4 ∧ p ≠ 6 ∧ p ≠ 8 ∧ p ≠ 10 ∧ p ≠ 240 ∧ p ≠ 242) → stJ J c a t p = J p
  | 0, _ => ⟨h, fun _ _ => rfl⟩
  | t + 1, ht => by
    obtain ⟨i1, i2⟩ := st_cN hGJ hSJ hG hS h hR hc2 h1 t (by omega)
    have e := i2 238 (by decide)
    refine ⟨st_c ((congrFun e 0).trans hGJ) ((congrFun e 1).trans hSJ) hG hS i1 (stN_ok hR t) hc2 (by omega) (by omega), fun p hp => ?_⟩
    exact (spJ_n hp).trans (i2 p hp)
theorem sok_a (hσ : SOK σ) : 1 ≤ sq σ 2 ∧ sq σ 2 ≤ 1000 := sok_r hσ (i := 2) (by decide)
end
