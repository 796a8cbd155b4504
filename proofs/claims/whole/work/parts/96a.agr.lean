/-! CALLS ON WHICH CLASS AND MODEL AGREE -/
/-- kinds of answers: 0 none, 1 int, 2 long -/
def tyV (kd : Nat) (v : Option Value) : Prop := match kd with
  | 0 => v = none
  | 1 => ∃ x, v = some (.int x)
  | _ => ∃ x, v = some (.long x)
/-- what a call is: the class's run, the model's run; codes of exceptions -/
def agr (kd : Nat) (cd : Nat → Int32) (σ : Sg) (C M : hf_G → hf_I → hf_J → Option hf_R) : Prop :=
  (∃ σ2 v, SOK σ2 ∧ tyV kd v ∧ (∀ g I J, Lay g → Wv g I → RC σ I J → cOK σ2 g I J v (C g I J)) ∧ ∀ g I J, Lay g → RM σ I J → mOK σ2 g I J 0 v (M g I J)) ∨
  (∃ e w, (e = 1 ∨ e = 2 ∨ e = 3) ∧ ¬ cd e = 0 ∧ tyV kd w ∧ (∀ g I J, Lay g → Wv g I → RC σ I J → cEX σ g I J e (C g I J)) ∧ ∀ g I J, Lay g → RM σ I J → mOK σ g I J (cd e) w (M g I J))
/-- calls that throw nothing -/
def agv (kd : Nat) (σ : Sg) (C M : hf_G → hf_I → hf_J → Option hf_R) : Prop :=
  ∃ σ2 v, SOK σ2 ∧ tyV kd v ∧ (∀ g I J, Lay g → Wv g I → RC σ I J → cOK σ2 g I J v (C g I J)) ∧ ∀ g I J, Lay g → RM σ I J → mOK σ2 g I J 0 v (M g I J)
def sgq (σ : Sg) (f : Nat → Nat) : Sg := (f, σ.2)
section
variable {σ : Sg} {f : Nat → Nat} {g : hf_G} {I I2 : hf_I} {J J2 : hf_J} {s k p a b c d m n v : Nat} {i j x y : Int32}
theorem i_rng {lo hi : Nat} (hh : hi < 2147483648) (h : nI lo ≤ i ∧ i ≤ nI hi) (hl : lo < 2147483648) : ∃ a, lo ≤ a ∧ a ≤ hi ∧ i = nI a := by
  obtain ⟨h1, h2⟩ := h
  have h0 : ¬ i < 0 := by
    intro c
    rw [Int32.lt_iff_toInt_lt] at c
    rw [Int32.le_iff_toInt_le, nI_toInt hl] at h1
    have : (0 : Int32).toInt = 0 := rfl
    omega
  obtain ⟨a, a1, rfl⟩ := nI_of h0
  rw [z_ii hl a1] at h1
  rw [z_ii a1 hh] at h2
  exact ⟨a, h1, h2, rfl⟩
/-- an argument lies in its range, as the class and as the model ask -/
def rgB (lo hi : Nat) (i : Int32) : Bool := decide (nI lo ≤ i ∧ i ≤ nI hi)
theorem rgB_in {lo hi : Nat} (h1 : lo < 2147483648) (h2 : hi < 2147483648) : inI i.toInt64 (lZ lo) (lZ hi) = rgB lo hi i := by
  have := inI_c (i := i) (a := lo) (b := hi) ⟨by omega, by omega⟩ ⟨by omega, by omega⟩
  rw [← nI_iZ, ← nI_iZ] at this
  exact this
theorem rgB_t {lo hi : Nat} (h1 : lo < 2147483648) (h2 : hi < 2147483648) (h : rgB lo hi i = true) : ∃ a, lo ≤ a ∧ a ≤ hi ∧ i = nI a := i_rng h2 (of_decide_eq_true h) h1
theorem rgB_p {lo hi : Nat} (h : rgB lo hi i = true) : nI lo ≤ i ∧ i ≤ nI hi := of_decide_eq_true h
theorem rgB_f {lo hi : Nat} (h : ¬ rgB lo hi i = true) : ¬ (nI lo ≤ i ∧ i ≤ nI hi) := fun c => h (decide_eq_true c)
theorem nxS_q (h1 : f 1 = sq σ 1) (h15 : f 15 = sq σ 15) : nxS (sgq σ f) = nxS σ := by
  have e1 : sN (sgq σ f) = sN σ := h1
  have e2 : sP (sgq σ f) = sP σ := h15
  unfold nxS
  rw [e1, e2]
  rfl
theorem glS_q (h1 : f 1 = sq σ 1) (h15 : f 15 = sq σ 15) (h7 : f 7 = sq σ 7) (h8 : f 8 = sq σ 8) (h9 : f 9 = sq σ 9) : glS (sgq σ f) = glS σ := by
  have e1 : sN (sgq σ f) = sN σ := h1
  have e2 : sP (sgq σ f) = sP σ := h15
  have e7 : sq (sgq σ f) 7 = sq σ 7 := h7
  have e8 : sq (sgq σ f) 8 = sq σ 8 := h8
  have e9 : sq (sgq σ f) 9 = sq σ 9 := h9
  unfold glS
  rw [nxS_q h1 h15, e1, e2, e7, e8, e9]
  rfl
theorem rng_up (h : Rng f) (hk0 : ¬ k = 0) (hk1 : ¬ k = 1) (hv : loT k ≤ v ∧ v ≤ hiT k) : Rng (up f k v) := by
  refine ⟨fun i hi => ?_, ?_⟩
  · by_cases e : i = k
    · subst e; rw [up_s]; exact hv
    · rw [up_n e]; exact h.1 i hi
  · rw [up_n (fun e => hk1 e.symm), up_n (fun e => hk0 e.symm)]
    exact h.2
theorem sok_q (h : SOK σ) (hf : Rng f) (h1 : f 1 = sq σ 1) (h15 : f 15 = sq σ 15) : SOK (sgq σ f) := by
  have e1 : sN (sgq σ f) = sN σ := h1
  have e2 : sP (sgq σ f) = sP σ := h15
  refine ⟨hf, ?_, ?_⟩
  · unfold sl
    rw [e1, e2]
    exact h.2.1
  · rw [e1, e2]
    exact h.2.2
theorem RC_q (hP : sP σ ≤ 12) (h : RC σ I J) (h1 : f 1 = sq σ 1) (h15 : f 15 = sq σ 15) (h7 : f 7 = sq σ 7) (h8 : f 8 = sq σ 8) (h9 : f 9 = sq σ 9) (hq : RCq (sgq σ f) I2 J2) (hI : ∀ a, 2 ≤ a → a ≠ 13 → a < 238 → I2 a = I a) (hJ : ∀ a, 2 ≤ a → a ≠ 13 → a < 238 → J2 a = J a) : RC (sgq σ f) I2 J2 := by
  have e1 : sN (sgq σ f) = sN σ := h1
  have e2 : sP (sgq σ f) = sP σ := h15
  refine ⟨hq, fun s hs => ?_, fun p hp => ?_⟩
  · have hs2 : sl σ s := by unfold sl at hs ⊢; rw [e2] at hs; exact hs
    have hr := gA_rng hP hs2
    have hg := h.2.1 s hs2
    unfold RCg at hg ⊢
    rw [hI (gA s) (by omega) (by omega) (by omega), hJ (gA s + 2) (by omega) (by omega) (by omega), hJ (gA s + 4) (by omega) (by omega) (by omega), hJ (gA s + 6) (by omega) (by omega) (by omega), hJ (gA s + 8) (by omega) (by omega) (by omega), e1]
    exact hg
  · rw [e2] at hp
    have hg := h.2.2 p hp
    unfold RCp at hg ⊢
    rw [hI (34 + 17 * p + 1) (by omega) (by omega) (by omega), hJ (34 + 17 * p + 1) (by omega) (by omega) (by omega), hJ (34 + 17 * p + 12) (by omega) (by omega) (by omega), hJ (34 + 17 * p + 14) (by omega) (by omega) (by omega), hJ (34 + 17 * p + 16) (by omega) (by omega) (by omega), e1, nxS_q h1 h15, glS_q h1 h15 h7 h8 h9]
    exact hg
theorem hq_u (h : ∀ i, i < 16 → I 270 i = nI (f i)) : ∀ i, i < 16 → hf_u I 270 k (nI v) 270 i = nI (up f k v i) := by
  intro i hi
  by_cases e : i = k
  · subst e; rw [ku_same, up_s]
  · rw [ku_ix e, up_n e]; exact h i hi
theorem hq_38 (h : ∀ i, i < 16 → I 270 i = nI (f i)) : ∀ i, i < 16 → thI I x 270 i = nI (f i) := fun i hi => (th_f (by omega)).trans (h i hi)
theorem RM_q (h : RM σ I J) (h1 : f 1 = sq σ 1) (h15 : f 15 = sq σ 15) (hq : ∀ i, i < 16 → I2 270 i = nI (f i)) (hI : ∀ a, a ≠ 270 → I2 a = I a) : RM (sgq σ f) I2 J := by
  have e1 : sN (sgq σ f) = sN σ := h1
  have e2 : sP (sgq σ f) = sP σ := h15
  obtain ⟨a1, a2, a3⟩ := h
  refine ⟨hq, ?_, ?_⟩
  · rw [hI 271 (by decide), hI 272 (by decide), e1]
    unfold sl
    rw [e2]
    exact a2
  · rw [hI 276 (by decide), hI 275 (by decide), e1, e2]
    exact a3
theorem lay_n (h : Lay g) : hf_n g < 1000000 := by rw [h.2.1]; decide
theorem lay_md (h : Lay g) : Md g := h.1.2.2.2.2.2.2
theorem lay_hx (h : Lay g) : Hx g := h.1.1
theorem lay_al (h : Lay g) : Al g := h.1.2.1
theorem lay_pu (h : Lay g) : Pu g := h.1.2.2.1
theorem lay_jo (h : Lay g) : Jo g := h.1.2.2.2.1
theorem lay_un (h : Lay g) : Un g := h.1.2.2.2.2.1
theorem lay_sk (h : Lay g) : Sk g := h.1.2.2.2.2.2.1
end
