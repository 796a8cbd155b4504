def shT (B A : Nat → Option Nat) (k f n : Nat) : Nat := ctB (fun j => decide (B j = some k ∧ A j = some f)) n
def mxN (w : Nat → Nat) (t : Nat) : Nat := it t 0 fun t f => if w (t + 1) ≤ w f then f else t + 1
def goZ (B A : Nat → Option Nat) (k c : Nat) : Option Nat := if 0 < shT B A k (mxN (fun f => shT B A k f c) 63) c then some (mxN (fun f => shT B A k f c) 63) else none
def nxZ (H : Nat → Nat → Option Nat) (P c p k : Nat) : Option (Nat × Nat) :=
  if p + 1 < P then match goZ (H p) (H (p + 1)) k c with
    | some f => some (p + 1, f)
    | none => if p + 2 < P then match goZ (H p) (H (p + 2)) k c with
      | some f => some (p + 2, f)
      | none => none else none else none
section
variable {σ : Sg} {A B : Nat → Option Nat} {R O : Nat → Int32} {I : hf_I} {J : hf_J} {g : hf_G} {c k f l p n P t j x : Nat}
theorem mxN_s {w : Nat → Nat} : mxN w (t + 1) = if w (t + 1) ≤ w (mxN w t) then mxN w t else t + 1 := rfl
theorem mxN_le {w : Nat → Nat} : ∀ t, mxN w t ≤ t
  | 0 => Nat.le_refl _
  | t + 1 => by
    have := mxN_le (w := w) t
    rw [mxN_s]
    split <;> omega
theorem mxN_max {w : Nat → Nat} : ∀ t f, f ≤ t → w f ≤ w (mxN w t)
  | 0, f, h => by
    have : f = 0 := by omega
    subst this
    exact Nat.le_refl _
  | t + 1, f, h => by
    rw [mxN_s]
    by_cases c1 : w (t + 1) ≤ w (mxN w t)
    · rw [if_pos c1]
      by_cases e : f = t + 1
      · rw [e]; exact c1
      · exact mxN_max t f (by omega)
    · rw [if_neg c1]
      by_cases e : f = t + 1
      · rw [e]; exact Nat.le_refl _
      · have := mxN_max (w := w) t f (by omega)
        omega
theorem mxM_z {w : Nat → Nat} {E : Nat → Int32} (h : ∀ f, f < 64 → E f = nI (w f)) (hw : ∀ f, f < 64 → w f ≤ 64) : ∀ t, t ≤ 63 → mxM E t = mxN w t
  | 0, _ => rfl
  | t + 1, ht => by
    have ih := mxM_z h hw t (by omega)
    have e : mxM E (t + 1) = if E (t + 1) ≤ E (mxM E t) then mxM E t else t + 1 := rfl
    have hm := mxN_le (w := w) t
    have h1 := hw (t + 1) (by omega)
    have h2 := hw (mxN w t) (by omega)
    have hq : (nI (w (t + 1)) ≤ nI (w (mxN w t))) = (w (t + 1) ≤ w (mxN w t)) := z_ii (by omega) (by omega)
    rw [e, ih, h (t + 1) (by omega), h (mxN w t) (by omega), mxN_s]
    by_cases c1 : w (t + 1) ≤ w (mxN w t)
    · rw [if_pos c1, if_pos (hq.mpr c1)]
    · rw [if_neg c1, if_neg (fun q => c1 (hq.mp q))]
theorem shT_s : shT B A k f (n + 1) = shT B A k f n + if B n = some k ∧ A n = some f then 1 else 0 := by
  unfold shT
  rw [ctB_s]
  by_cases c1 : B n = some k ∧ A n = some f
  · rw [if_pos c1, if_pos (decide_eq_true c1)]
  · rw [if_neg c1, if_neg (fun q => c1 (of_decide_eq_true q)), Nat.add_zero]
theorem shT_le : ∀ n, shT B A k f n ≤ n
  | 0 => Nat.le_refl _
  | n + 1 => by
    have := shT_le n
    rw [shT_s]
    split <;> omega
theorem shT_0 (hA : ∀ j, j < n → A j ≠ some f) : shT B A k f n = 0 := by
  induction n with
  | zero => rfl
  | succ n ih =>
    rw [shT_s, ih (fun j hj => hA j (by omega)), if_neg (fun q => hA n (by omega) q.2)]
theorem coM_n (h : f < 64) : ¬ nI f = -1 ∧ (nI f).toNatClampNeg = f := ⟨nI_m1n (by omega), by rw [nI_clamp (by omega)]⟩
theorem coM_eq {o : Option Nat} (ho : ∀ f, o = some f → f < 64) (hk : k < 64) : (coM o = nI k) = (o = some k) := by
  cases o with
  | none =>
    have := (coM_n hk).1
    exact propext ⟨fun e => absurd e.symm this, fun e => by cases e⟩
  | some f =>
    have hf := ho f rfl
    have hq : (nI f = nI k) = (f = k) := z_ie (by omega) (by omega)
    exact propext ⟨fun e => by rw [hq.mp e], fun e => by rw [Option.some.inj e]; rfl⟩
theorem g1_z (hl : ∀ j, j < c → R (64 * l + j) = coM (A j)) (hp : ∀ j, j < c → R (64 * p + j) = coM (B j)) (hA : ∀ j f, j < c → A j = some f → f < 64) (hB : ∀ j f, j < c → B j = some f → f < 64) (hk : k < 64) : ∀ n, n ≤ c → (∀ f, f < 64 → (g1M R O p (nI k) l n).1 f = nI (shT B A k f n)) ∧ ((g1M R O p (nI k) l n).2 = true ↔ ∃ f, f < 64 ∧ 0 < shT B A k f n)
  | 0, _ => by
    refine ⟨fun f hf => ?_, ⟨fun e => (by cases e), fun e => (by obtain ⟨f, -, h⟩ := e; cases h)⟩⟩
    show gzM O f = nI 0
    unfold gzM
    rw [if_pos hf]
    rfl
  | n + 1, hn => by
    obtain ⟨i1, i2⟩ := g1_z hl hp hA hB hk n (by omega)
    have e : g1M R O p (nI k) l (n + 1) = if R (64 * l + n) = -1 then g1M R O p (nI k) l n else if R (64 * p + n) = nI k then (up (g1M R O p (nI k) l n).1 (R (64 * l + n)).toNatClampNeg ((g1M R O p (nI k) l n).1 (R (64 * l + n)).toNatClampNeg + 1), true) else g1M R O p (nI k) l n := rfl
    rw [e, hl n (by omega), hp n (by omega)]
    cases ha : A n with
    | none =>
      rw [if_pos (show coM none = -1 from rfl)]
      refine ⟨fun f hf => ?_, ?_⟩
      · rw [i1 f hf, shT_s, ha, if_neg (fun q => by cases q.2), Nat.add_zero]
      · rw [i2]
        constructor
        · rintro ⟨f, h1, h2⟩
          exact ⟨f, h1, by rw [shT_s]; omega⟩
        · rintro ⟨f, h1, h2⟩
          rw [shT_s, ha, if_neg (fun q => by cases q.2), Nat.add_zero] at h2
          exact ⟨f, h1, h2⟩
    | some a =>
      have ha64 := hA n a (by omega) ha
      obtain ⟨a1, a2⟩ := coM_n ha64
      rw [if_neg (show ¬ coM (some a) = -1 from a1)]
      have hq := coM_eq (o := B n) (fun f hf => hB n f (by omega) hf) hk
      by_cases c1 : B n = some k
      · rw [if_pos (hq.mpr c1), show coM (some a) = nI a from rfl, a2]
        refine ⟨fun f hf => ?_, ⟨fun _ => ⟨a, ha64, ?_⟩, fun _ => rfl⟩⟩
        · rw [shT_s, ha]
          dsimp only
          by_cases e2 : f = a
          · subst e2
            rw [up_s, i1 f hf, if_pos ⟨c1, rfl⟩, show (1 : Int32) = nI 1 from rfl, nI_add]
          · rw [up_n e2, i1 f hf, if_neg (fun q => e2 (Option.some.inj q.2).symm), Nat.add_zero]
        · rw [shT_s, ha, if_pos ⟨c1, rfl⟩]
          omega
      · rw [if_neg (fun q => c1 (hq.mp q))]
        refine ⟨fun f hf => ?_, ?_⟩
        · rw [i1 f hf, shT_s, if_neg (fun q => c1 q.1), Nat.add_zero]
        · rw [i2]
          constructor
          · rintro ⟨f, h1, h2⟩
            exact ⟨f, h1, by rw [shT_s]; omega⟩
          · rintro ⟨f, h1, h2⟩
            rw [shT_s, if_neg (fun q => c1 q.1), Nat.add_zero] at h2
            exact ⟨f, h1, h2⟩
theorem goO_z (hl : ∀ j, j < c → R (64 * l + j) = coM (A j)) (hp : ∀ j, j < c → R (64 * p + j) = coM (B j)) (hA : ∀ j f, j < c → A j = some f → f < 64) (hB : ∀ j f, j < c → B j = some f → f < 64) (hk : k < 64) (hc : c ≤ 64) : goO R O p (nI k) l c = goZ B A k c := by
  obtain ⟨i1, i2⟩ := g1_z (O := O) hl hp hA hB hk c (Nat.le_refl _)
  have hm := mxM_z (w := fun f => shT B A k f c) i1 (fun f _ => Nat.le_trans (shT_le c) hc) 63 (Nat.le_refl _)
  unfold goO goZ
  rw [hm]
  by_cases c1 : (g1M R O p (nI k) l c).2 = true
  · obtain ⟨f, f1, f2⟩ := i2.mp c1
    have := mxN_max (w := fun f => shT B A k f c) 63 f (by omega)
    rw [if_pos c1, if_pos (Nat.lt_of_lt_of_le f2 this)]
  · rw [if_neg c1, if_neg (fun q => c1 (i2.mpr ⟨_, by have := mxN_le (w := fun f => shT B A k f c) 63; omega, q⟩))]
theorem goZ_lt (hA : ∀ j f, j < c → A j = some f → f < n) (h : goZ B A k c = some f) : f < n ∧ f < 64 := by
  unfold goZ at h
  have hm := mxN_le (w := fun f => shT B A k f c) 63
  by_cases c1 : 0 < shT B A k (mxN (fun f => shT B A k f c) 63) c
  · rw [if_pos c1] at h
    rw [← Option.some.inj h]
    refine ⟨?_, by omega⟩
    apply Classical.byContradiction
    intro q
    rw [shT_0 (fun j hj e => q (hA j _ hj e))] at c1
    cases c1
  · rw [if_neg c1] at h
    cases h
theorem nxO_z {H : Nat → Nat → Option Nat} (hR : ∀ l j, l < P → j < c → R (64 * l + j) = coM (H l j)) (hH : ∀ l j f, l < P → j < c → H l j = some f → f < 64) (hk : k < 64) (hc : c ≤ 64) : nxO R O P c p k = nxZ H P c p k := by
  unfold nxO nxZ
  by_cases c1 : p + 1 < P
  · rw [if_pos c1, if_pos c1, goO_z (A := H (p + 1)) (B := H p) (fun j hj => hR _ j c1 hj) (fun j hj => hR _ j (by omega) hj) (fun j f hj => hH _ j f c1 hj) (fun j f hj => hH _ j f (by omega) hj) hk hc]
    cases goZ (H p) (H (p + 1)) k c with
    | some f => rfl
    | none =>
      dsimp only
      by_cases c2 : p + 2 < P
      · rw [if_pos c2, if_pos c2, goO_z (A := H (p + 2)) (B := H p) (fun j hj => hR _ j c2 hj) (fun j hj => hR _ j (by omega) hj) (fun j f hj => hH _ j f c2 hj) (fun j f hj => hH _ j f (by omega) hj) hk hc]
        rfl
      · rw [if_neg c2, if_neg c2]
  · rw [if_neg c1, if_neg c1]
theorem nxZ_lt {H : Nat → Nat → Option Nat} {cn : Nat → Nat} (hH : ∀ l j f, l < P → j < c → H l j = some f → f < cn l) (h : nxZ H P c p k = some (j, x)) : p < j ∧ j < P ∧ x < cn j ∧ x < 64 := by
  unfold nxZ at h
  by_cases c1 : p + 1 < P
  · rw [if_pos c1] at h
    cases e : goZ (H p) (H (p + 1)) k c with
    | some f =>
      rw [e] at h
      cases h
      have := goZ_lt (fun j f hj => hH _ j f c1 hj) e
      exact ⟨by omega, c1, this.1, this.2⟩
    | none =>
      rw [e] at h
      dsimp only at h
      by_cases c2 : p + 2 < P
      · rw [if_pos c2] at h
        cases e2 : goZ (H p) (H (p + 2)) k c with
        | some f =>
          rw [e2] at h
          cases h
          have := goZ_lt (fun j f hj => hH _ j f c2 hj) e2
          exact ⟨by omega, c2, this.1, this.2⟩
        | none =>
          rw [e2] at h
          cases h
      · rw [if_neg c2] at h
        cases h
  · rw [if_neg c1] at h
    cases h
end
