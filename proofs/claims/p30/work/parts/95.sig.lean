abbrev Sg : Type := (Nat → Nat) × (Nat → Nat → Nat) × (Nat → Nat → Nat) × (Nat → Nat → Int64) × (Nat → Nat → Int64) × (Nat → Nat → Option Nat) × (Nat → Nat) × (Nat → Nat) × (Nat → Nat)
/-- the fields, by the model's numbers: 0 side, 1 many, 2 age, 3 g, 4 softness, 5 length, 6 least, 7 cooling, 8 forming, 9 wind, 10 x, 11 y, 12 depth, 13 mask, 14 fibre, 15 pictures -/
def sq (σ : Sg) : Nat → Nat := σ.1
/-- places and speeds by slot and grain; 12 is now -/
def sX (σ : Sg) : Nat → Nat → Nat := σ.2.1
def sY (σ : Sg) : Nat → Nat → Nat := σ.2.2.1
def sU (σ : Sg) : Nat → Nat → Int64 := σ.2.2.2.1
def sW (σ : Sg) : Nat → Nat → Int64 := σ.2.2.2.2.1
/-- of each picture: the halo of a grain, how many halos, its length and least number -/
def sH (σ : Sg) : Nat → Nat → Option Nat := σ.2.2.2.2.2.1
def sC (σ : Sg) : Nat → Nat := σ.2.2.2.2.2.2.1
def sL (σ : Sg) : Nat → Nat := σ.2.2.2.2.2.2.2.1
def sT (σ : Sg) : Nat → Nat := σ.2.2.2.2.2.2.2.2
def sN (σ : Sg) : Nat := sq σ 1
def sP (σ : Sg) : Nat := sq σ 15
def sl (σ : Sg) (s : Nat) : Prop := s = 12 ∨ s < sP σ
/-- where a slot's grains lie -/
def gA (s : Nat) : Nat := if s = 12 then 2 else 34 + 17 * s + 2
/-- links -/
def lkZ (X Y : Nat → Nat) (l : Nat) (a b : Nat) : Bool := decide (sqZ (wyZ (X a) (X b)) (wyZ (Y a) (Y b)) ≤ (l : Int) * l)
/-- how many grains bear a mark -/
def szM (M : Nat → Nat) (c k : Nat) : Nat := ctB (fun j => decide (M j = k)) c
/-- R names the groups of at least l grains, by falling sizes, of as many by the lowest -/
def EnH (L : Nat → Nat → Bool) (c l : Nat) (R : Nat → Option Nat) (n : Nat) : Prop :=
  ∃ (M ld : Nat → Nat), mkd L c M ∧ (∀ h, h < n → ld h < c ∧ M (ld h) = ld h ∧ l ≤ szM M c (ld h)) ∧ (∀ h i, h < i → i < n → bef (fun k => (szM M c k : Int)) (ld h) (ld i)) ∧
    (∀ k, k < c → M k = k → l ≤ szM M c k → ∃ h, h < n ∧ ld h = k) ∧ ∀ j h, j < c → (R j = some h ↔ h < n ∧ M j = ld h)
/-- ranges of the fields -/
def loT : Nat → Nat
  | 0 => 2 | 1 => 4 | 2 => 1 | 3 => 0 | 4 => 10 | 5 => 1 | 6 => 1 | 12 => 1 | _ => 0
def hiT : Nat → Nat
  | 0 => 8 | 1 => 64 | 2 => 1000 | 3 => 10000 | 4 => 1000 | 5 => 2000 | 6 => 64 | 7 => 1000 | 8 => 1000 | 9 => 5000 | 10 => 4095 | 11 => 4095 | 12 => 4000 | 13 => 255 | 14 => 4000 | _ => 12
def Rng (f : Nat → Nat) : Prop := (∀ i, i < 16 → loT i ≤ f i ∧ f i ≤ hiT i) ∧ f 1 = f 0 * f 0
def SOK (σ : Sg) : Prop :=
  Rng (sq σ) ∧
  (∀ s k, sl σ s → k < sN σ → sX σ s k < 4096 ∧ sY σ s k < 4096) ∧
  (∀ p, p < sP σ → EnH (lkZ (sX σ p) (sY σ p) (sL σ p)) (sN σ) (sT σ p) (sH σ p) (sC σ p) ∧ 1 ≤ sT σ p ∧ sT σ p ≤ 64 ∧ 1 ≤ sL σ p ∧ sL σ p ≤ 2000 ∧ sC σ p ≤ 64)
/-- what goes on in what; the galaxies -/
def RwH (σ : Sg) : Nat → Int32 := fun j => coM (sH σ (j / 64) (j % 64))
def nxS (σ : Sg) : Nat → Nat → Option (Nat × Nat) := nxO (RwH σ) (fun _ => 0) (sP σ) (sN σ)
def glS (σ : Sg) : Int32 × (Nat → Int32) × Q4 := n3Q (RwH σ) (sC σ) (nxS σ) (nI (sq σ 7)) (nI (sq σ 8)) (nI (sq σ 9)) (sN σ) (0, (fun _ => 0), (fun _ => 0), (fun _ => 0), (fun _ => 0), (fun _ => 0)) (sP σ)
/-- the class's rows hold it -/
def RCq (σ : Sg) (I : hf_I) (J : hf_J) : Prop :=
  I 2 4 = nI (sq σ 0) ∧ I 2 5 = nI (sq σ 1) ∧ I 0 6 = nI (sq σ 2) ∧ J 238 0 = lZ (sq σ 3) ∧ J 238 1 = lZ (sq σ 4) ∧ J 0 7 = lZ (sq σ 5) ∧ I 0 8 = nI (sq σ 6) ∧ J 13 4 = lZ (sq σ 7) ∧ J 13 5 = lZ (sq σ 8) ∧ J 13 6 = lZ (sq σ 9) ∧
  J 257 7 = lZ (sq σ 10) ∧ J 257 8 = lZ (sq σ 11) ∧ J 257 9 = lZ (sq σ 12) ∧ I 257 10 = nI (sq σ 13) ∧ J 257 11 = lZ (sq σ 14) ∧ I 13 3 = nI (sq σ 15) ∧ I 16 2 = nI 0
def RCg (σ : Sg) (I : hf_I) (J : hf_J) (s : Nat) : Prop := I (gA s) 5 = nI (sN σ) ∧ ∀ k, k < sN σ → J (gA s + 2) k = lZ (sX σ s k) ∧ J (gA s + 4) k = lZ (sY σ s k) ∧ J (gA s + 6) k = sU σ s k ∧ J (gA s + 8) k = sW σ s k
def RCp (σ : Sg) (I : hf_I) (J : hf_J) (p : Nat) : Prop :=
  I (34 + 17 * p + 1) 2 = nI (sC σ p) ∧ I (34 + 17 * p + 1) 4 = nI (sT σ p) ∧ J (34 + 17 * p + 1) 3 = lZ (sL σ p) ∧ (∀ h k, h < sC σ p → k < 64 → btL (J (34 + 17 * p + 12) h) k = decide (k < sN σ ∧ sH σ p k = some h)) ∧
  (∀ k, k < sC σ p → J (34 + 17 * p + 14) k = cdL (nxS σ p k)) ∧ ∀ k, k < sC σ p → J (34 + 17 * p + 16) (4 * k) = ((glS σ).2.2.1 (64 * p + k)).toInt64 ∧ J (34 + 17 * p + 16) (4 * k + 1) = ((glS σ).2.2.2.1 (64 * p + k)).toInt64 ∧ J (34 + 17 * p + 16) (4 * k + 2) = ((glS σ).2.2.2.2.1 (64 * p + k)).toInt64 ∧ J (34 + 17 * p + 16) (4 * k + 3) = ((glS σ).2.2.2.2.2 (64 * p + k)).toInt64
def RC (σ : Sg) (I : hf_I) (J : hf_J) : Prop := RCq σ I J ∧ (∀ s, sl σ s → RCg σ I J s) ∧ ∀ p, p < sP σ → RCp σ I J p
section
variable {σ : Sg} {I I2 : hf_I} {J J2 : hf_J} {s k p : Nat}
theorem sok_r (h : SOK σ) {i : Nat} (hi : i < 16) : loT i ≤ sq σ i ∧ sq σ i ≤ hiT i := h.1.1 i hi
theorem sok_N (h : SOK σ) : 4 ≤ sN σ ∧ sN σ ≤ 64 := sok_r h (i := 1) (by decide)
theorem sok_P (h : SOK σ) : sP σ ≤ 12 := (sok_r h (i := 15) (by decide)).2
/-- cells that say nothing -/
def scI (a j : Nat) : Prop := a = 1 ∨ (a = 257 ∧ j = 6) ∨ 270 ≤ a
def scJ (a : Nat) : Prop := a = 1 ∨ a = 12 ∨ a = 33 ∨ (239 ≤ a ∧ a ≤ 256) ∨ 258 ≤ a
def fC (I I2 : hf_I) (J J2 : hf_J) : Prop := (∀ a j, ¬ scI a j → I2 a j = I a j) ∧ ∀ a, ¬ scJ a → J2 a = J a
theorem gA_p (h : p < 12) : gA p = 34 + 17 * p + 2 := if_neg (by omega)
theorem gA_rng (hP : sP σ ≤ 12) (h : sl σ s) : gA s = 2 ∨ (36 ≤ gA s ∧ gA s ≤ 223) := by
  unfold gA
  rcases h with h | h
  · rw [if_pos h]; exact Or.inl rfl
  · rw [if_neg (by omega)]; omega
theorem RC_fr (hP : sP σ ≤ 12) (h : RC σ I J) (hf : fC I I2 J J2) : RC σ I2 J2 := by
  obtain ⟨hq, hg, hp⟩ := h
  obtain ⟨fI, fJ⟩ := hf
  have eI : ∀ a j, a < 270 → a ≠ 1 → (a ≠ 257 ∨ j ≠ 6) → I2 a j = I a j := fun a j h1 h2 h3 => fI a j (by unfold scI; omega)
  have eJ : ∀ a, a < 258 → a ≠ 1 → a ≠ 12 → a ≠ 33 → (a < 239 ∨ 256 < a) → J2 a = J a := fun a h1 h2 h3 h4 h5 => fJ a (by unfold scJ; omega)
  refine ⟨?_, fun s hs => ?_, fun p hp2 => ?_⟩
  · unfold RCq
    rw [eI 2 4 (by decide) (by decide) (by decide), eI 2 5 (by decide) (by decide) (by decide), eI 0 6 (by decide) (by decide) (by decide), eJ 238 (by decide) (by decide) (by decide) (by decide) (by decide), eJ 0 (by decide) (by decide) (by decide) (by decide) (by decide), eI 0 8 (by decide) (by decide) (by decide), eJ 13 (by decide) (by decide) (by decide) (by decide) (by decide), eJ 257 (by decide) (by decide) (by decide) (by decide) (by decide), eI 257 10 (by decide) (by decide) (by decide), eI 13 3 (by decide) (by decide) (by decide), eI 16 2 (by decide) (by decide) (by decide)]
    exact hq
  · have hr := gA_rng hP hs
    have hg2 := hg s hs
    unfold RCg at hg2 ⊢
    rw [eI (gA s) 5 (by omega) (by omega) (by omega), eJ (gA s + 2) (by omega) (by omega) (by omega) (by omega) (by omega), eJ (gA s + 4) (by omega) (by omega) (by omega) (by omega) (by omega), eJ (gA s + 6) (by omega) (by omega) (by omega) (by omega) (by omega), eJ (gA s + 8) (by omega) (by omega) (by omega) (by omega) (by omega)]
    exact hg2
  · have h2 := hp p hp2
    unfold RCp at h2 ⊢
    rw [eI (34 + 17 * p + 1) 2 (by omega) (by omega) (by omega), eI (34 + 17 * p + 1) 4 (by omega) (by omega) (by omega), eJ (34 + 17 * p + 1) (by omega) (by omega) (by omega) (by omega) (by omega), eJ (34 + 17 * p + 12) (by omega) (by omega) (by omega) (by omega) (by omega), eJ (34 + 17 * p + 14) (by omega) (by omega) (by omega) (by omega) (by omega), eJ (34 + 17 * p + 16) (by omega) (by omega) (by omega) (by omega) (by omega)]
    exact h2
/-- what the class leaves as it is; what the model does -/
def kC (I I2 : hf_I) (J J2 : hf_J) : Prop := ∀ a, 270 ≤ a → I2 a = I a ∧ J2 a = J a
/-- a run of the class that answers, that throws; a run of the model -/
def cOK (σ2 : Sg) (g : hf_G) (I : hf_I) (J : hf_J) (v : Option Value) (r : Option hf_R) : Prop := ∃ I2 J2, r = some (.inl v, g, I2, J2) ∧ RC σ2 I2 J2 ∧ kC I I2 J J2
def cEX (σ : Sg) (g : hf_G) (I : hf_I) (J : hf_J) (e : Nat) (r : Option hf_R) : Prop := ∃ I2 J2, r = some (.inr e, hf_th g, I2, J2) ∧ RC σ I2 J2 ∧ kC I I2 J J2
theorem kC.r : kC I I J J := fun a _ => ⟨rfl, rfl⟩
theorem cOK_0 {g : hf_G} {v : Option Value} {r : Option hf_R} (h : RC σ I J) (hr : r = some (.inl v, g, I, J)) : cOK σ g I J v r := ⟨I, J, hr, h, kC.r⟩
end
