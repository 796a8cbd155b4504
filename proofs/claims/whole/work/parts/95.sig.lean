/-! THE ABSTRACT STATE -/
abbrev Sg : Type := (Nat → Nat) × (Nat → Nat → Nat) × (Nat → Nat → Nat) × (Nat → Nat → Int64) × (Nat → Nat → Int64) × (Nat → Nat → Option Nat) × (Nat → Nat) × (Nat → Nat) × (Nat → Nat)
/-- the fields, by the model's numbers: 0 side, 1 many, 2 age, 3 g, 4 softness, 5 length, 6 least, 7 cooling, 8 forming, 9 wind, 10 x, 11 y, 12 depth, 13 mask, 14 fibre, 15 pictures -/
def sq (σ : Sg) : Nat → Nat := σ.1
/-- places and speeds by slot and grain; 12 is now -/
def sX (σ : Sg) : Nat → Nat → Nat := σ.2.1
def sY (σ : Sg) : Nat → Nat → Nat := σ.2.2.1
def sU (σ : Sg) : Nat → Nat → Int64 := σ.2.2.2.1
def sW (σ : Sg) : Nat → Nat → Int64 := σ.2.2.2.2.1
/-- of each picture: the halo of a grain, how many halos, its length and least number -/
def sH (σ : Sg) : Nat → Nat → Option Nat := σ.2.2.2.2.2.1
def sC (σ : Sg) : Nat → Nat := σ.2.2.2.2.2.2.1
def sL (σ : Sg) : Nat → Nat := σ.2.2.2.2.2.2.2.1
def sT (σ : Sg) : Nat → Nat := σ.2.2.2.2.2.2.2.2
def sN (σ : Sg) : Nat := sq σ 1
def sP (σ : Sg) : Nat := sq σ 15
def sl (σ : Sg) (s : Nat) : Prop := s = 12 ∨ s < sP σ
/-- where a slot's grains lie -/
def gA (s : Nat) : Nat := if s = 12 then 2 else 34 + 17 * s + 2
/-- links -/
def lkZ (X Y : Nat → Nat) (l : Nat) (a b : Nat) : Bool := decide (sqZ (wyZ (X a) (X b)) (wyZ (Y a) (Y b)) ≤ (l : Int) * l)
/-- how many grains bear a mark -/
def szM (M : Nat → Nat) (c k : Nat) : Nat := ctB (fun j => decide (M j = k)) c
/-- R names the groups of at least l grains, by falling sizes, of as many by the lowest -/
def EnH (L : Nat → Nat → Bool) (c l : Nat) (R : Nat → Option Nat) (n : Nat) : Prop :=
  ∃ (M ld : Nat → Nat), mkd L c M ∧ (∀ h, h < n → ld h < c ∧ M (ld h) = ld h ∧ l ≤ szM M c (ld h)) ∧ (∀ h i, h < i → i < n → bef (fun k => (szM M c k : Int)) (ld h) (ld i)) ∧
    (∀ k, k < c → M k = k → l ≤ szM M c k → ∃ h, h < n ∧ ld h = k) ∧ ∀ j h, j < c → (R j = some h ↔ h < n ∧ M j = ld h)
def SOK (σ : Sg) : Prop :=
  (2 ≤ sq σ 0 ∧ sq σ 0 ≤ 8 ∧ sq σ 1 = sq σ 0 * sq σ 0 ∧ 1 ≤ sq σ 2 ∧ sq σ 2 ≤ 1000 ∧ sq σ 3 ≤ 10000 ∧ 10 ≤ sq σ 4 ∧ sq σ 4 ≤ 1000 ∧ 1 ≤ sq σ 5 ∧ sq σ 5 ≤ 2000 ∧ 1 ≤ sq σ 6 ∧ sq σ 6 ≤ 64 ∧ sq σ 7 ≤ 1000 ∧ sq σ 8 ≤ 1000 ∧ sq σ 9 ≤ 5000 ∧ sq σ 10 ≤ 4095 ∧ sq σ 11 ≤ 4095 ∧ 1 ≤ sq σ 12 ∧ sq σ 12 ≤ 4000 ∧ sq σ 13 ≤ 255 ∧ sq σ 14 ≤ 4000 ∧ sq σ 15 ≤ 12) ∧
  (∀ s k, sl σ s → k < sN σ → sX σ s k < 4096 ∧ sY σ s k < 4096) ∧
  (∀ p, p < sP σ → EnH (lkZ (sX σ p) (sY σ p) (sL σ p)) (sN σ) (sT σ p) (sH σ p) (sC σ p) ∧ 1 ≤ sT σ p ∧ sT σ p ≤ 64 ∧ 1 ≤ sL σ p ∧ sL σ p ≤ 2000)
/-- what goes on in what; the galaxies -/
def RwH (σ : Sg) : Nat → Int32 := fun j => coM (sH σ (j / 64) (j % 64))
def nxS (σ : Sg) : Nat → Nat → Option (Nat × Nat) := nxO (RwH σ) (fun _ => 0) (sP σ) (sN σ)
def glS (σ : Sg) : Int32 × (Nat → Int32) × Q4 := n3Q (RwH σ) (sC σ) (nxS σ) (nI (sq σ 7)) (nI (sq σ 8)) (nI (sq σ 9)) (sN σ) (0, (fun _ => 0), (fun _ => 0), (fun _ => 0), (fun _ => 0), (fun _ => 0)) (sP σ)
/-- the model's rows hold it -/
def RM (σ : Sg) (I : hf_I) (J : hf_J) : Prop :=
  (∀ i, i < 16 → I 270 i = nI (sq σ i)) ∧
  (∀ s k, sl σ s → k < sN σ → I 271 (64 * s + k) = nI (sX σ s k) ∧ I 272 (64 * s + k) = nI (sY σ s k) ∧ J 273 (64 * s + k) = sU σ s k ∧ J 274 (64 * s + k) = sW σ s k) ∧
  (∀ p, p < sP σ → I 276 p = nI (sC σ p) ∧ ∀ k, k < sN σ → I 275 (64 * p + k) = coM (sH σ p k))
/-- the class's rows hold it -/
def RCq (σ : Sg) (I : hf_I) (J : hf_J) : Prop :=
  I 2 4 = nI (sq σ 0) ∧ I 2 5 = nI (sq σ 1) ∧ I 0 6 = nI (sq σ 2) ∧ J 238 0 = lZ (sq σ 3) ∧ J 238 1 = lZ (sq σ 4) ∧ J 0 7 = lZ (sq σ 5) ∧ I 0 8 = nI (sq σ 6) ∧ J 13 4 = lZ (sq σ 7) ∧ J 13 5 = lZ (sq σ 8) ∧ J 13 6 = lZ (sq σ 9) ∧
  J 257 7 = lZ (sq σ 10) ∧ J 257 8 = lZ (sq σ 11) ∧ J 257 9 = lZ (sq σ 12) ∧ I 257 10 = nI (sq σ 13) ∧ J 257 11 = lZ (sq σ 14) ∧ I 13 3 = nI (sq σ 15) ∧ I 16 2 = nI 0
def RCg (σ : Sg) (I : hf_I) (J : hf_J) (s : Nat) : Prop := I (gA s) 5 = nI (sN σ) ∧ ∀ k, k < sN σ → J (gA s + 2) k = lZ (sX σ s k) ∧ J (gA s + 4) k = lZ (sY σ s k) ∧ J (gA s + 6) k = sU σ s k ∧ J (gA s + 8) k = sW σ s k
def RCp (σ : Sg) (I : hf_I) (J : hf_J) (p : Nat) : Prop :=
  I (34 + 17 * p + 1) 2 = nI (sC σ p) ∧ I (34 + 17 * p + 1) 4 = nI (sT σ p) ∧ J (34 + 17 * p + 1) 3 = lZ (sL σ p) ∧ (∀ h k, h < sC σ p → k < 64 → btL (J (34 + 17 * p + 12) h) k = decide (k < sN σ ∧ sH σ p k = some h)) ∧
  (∀ k, k < sC σ p → J (34 + 17 * p + 14) k = cdL (nxS σ p k)) ∧ ∀ k, k < sC σ p → J (34 + 17 * p + 16) (4 * k) = ((glS σ).2.2.1 (64 * p + k)).toInt64 ∧ J (34 + 17 * p + 16) (4 * k + 1) = ((glS σ).2.2.2.1 (64 * p + k)).toInt64 ∧ J (34 + 17 * p + 16) (4 * k + 2) = ((glS σ).2.2.2.2.1 (64 * p + k)).toInt64 ∧ J (34 + 17 * p + 16) (4 * k + 3) = ((glS σ).2.2.2.2.2 (64 * p + k)).toInt64
def RC (σ : Sg) (I : hf_I) (J : hf_J) : Prop := RCq σ I J ∧ (∀ s, sl σ s → RCg σ I J s) ∧ ∀ p, p < sP σ → RCp σ I J p
