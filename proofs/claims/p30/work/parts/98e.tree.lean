/-! TREES AND GAS: what is always so -/
section
variable {σ : Sg} {c p k e o a b n m t z j x i P co fo wi h y : Nat} {nx fr : Nat → Nat → Option (Nat × Nat)} {cn : Nat → Nat} {cf : Nat → Nat → Int32} {q : Option (Nat × Nat) × Int32} {S S0 : Nat → Nat → Bool} {H : Nat → Nat → Option Nat} {A B' : Nat → Option Nat} {B : Nat → Bool} {V : Nat → Nat → Nat}
/-- the one that it comes mainly from -/
def mfQ (nx : Nat → Nat → Option (Nat × Nat)) (i k : Nat) (q : Option (Nat × Nat) × Int32) : Prop := 0 ≤ q.2 ∧ ((q.1 = none ∧ q.2 = 0) ∨ ∃ e o, q.1 = some (e, o) ∧ nx e o = some (i, k))
theorem mf_ok (hco : ∀ o, nx e o = some (i, k) → 0 < cf e o) (h : mfQ nx i k q) : ∀ t, mfQ nx i k (mfM nx cf i k e q t) ∧ (q.1 ≠ none → (mfM nx cf i k e q t).1 ≠ none) ∧ ∀ o, o < t → nx e o = some (i, k) → (mfM nx cf i k e q t).1 ≠ none
  | 0 => ⟨h, fun x => x, fun o ho => absurd ho (by omega)⟩
  | t + 1 => by
    obtain ⟨h1, h2, h3⟩ := mf_ok hco h t
    have e1 : mfM nx cf i k e q (t + 1) = if (if nx e t = some (i, k) then cf e t else 0) ≤ (mfM nx cf i k e q t).2 then mfM nx cf i k e q t else (some (e, t), if nx e t = some (i, k) then cf e t else 0) := rfl
    rw [e1]
    by_cases hc : (if nx e t = some (i, k) then cf e t else 0) ≤ (mfM nx cf i k e q t).2
    · rw [if_pos hc]
      refine ⟨h1, h2, fun o ho hn => ?_⟩
      by_cases ho2 : o < t
      · exact h3 o ho2 hn
      · have e2 : o = t := by omega
        subst e2
        rw [if_pos hn] at hc
        intro hq
        rcases h1.2 with ⟨-, z1⟩ | ⟨e', o', z1, -⟩
        · rw [z1] at hc
          have := hco o hn
          rw [Int32.lt_iff_toInt_lt] at this
          rw [Int32.le_iff_toInt_le] at hc
          omega
        · rw [z1] at hq; cases hq
    · rw [if_neg hc]
      by_cases hn : nx e t = some (i, k)
      · rw [if_pos hn]
        exact ⟨⟨by
          have := hco t hn
          show (0 : Int32) ≤ cf e t
          rw [Int32.lt_iff_toInt_lt] at this
          rw [Int32.le_iff_toInt_le]
          omega, Or.inr ⟨e, t, rfl, hn⟩⟩, fun _ => (fun u => by cases u), fun _ _ _ => (fun u => by cases u)⟩
      · rw [if_neg hn] at hc
        exact absurd h1.1 hc
theorem fr_some (hco : ∀ e o, nx e o = some (i, k) → 0 < cf e o) (h : frM cn nx cf i k = some (e, o)) : nx e o = some (i, k) := by
  have h0 : mfQ nx i k (none, 0) := ⟨by decide, Or.inl ⟨rfl, rfl⟩⟩
  have fin : ∀ q, mfQ nx i k q → q.1 = some (e, o) → nx e o = some (i, k) := fun q hq hs => by
    rcases hq.2 with ⟨z1, -⟩ | ⟨e', o', z1, z2⟩
    · rw [z1] at hs; cases hs
    · rw [z1] at hs; cases hs; exact z2
  unfold frM at h
  split at h
  · split at h
    · exact fin _ (mf_ok (hco _) (mf_ok (hco _) h0 _).1 _).1 h
    · exact fin _ (mf_ok (hco _) h0 _).1 h
  · cases h
theorem fr_none (hco : ∀ e o, nx e o = some (i, k) → 0 < cf e o) (h : frM cn nx cf i k = none) : ∀ e o, o < cn e → e < i → i ≤ e + 2 → nx e o ≠ some (i, k) := by
  have h0 : mfQ nx i k (none, 0) := ⟨by decide, Or.inl ⟨rfl, rfl⟩⟩
  intro e o ho he hi hn
  unfold frM at h
  rw [if_pos (by omega)] at h
  obtain ⟨a1, a2, a3⟩ := mf_ok (cf := cf) (hco (i - 1)) h0 (cn (i - 1))
  by_cases h2 : 2 ≤ i
  · rw [if_pos h2] at h
    obtain ⟨b1, b2, b3⟩ := mf_ok (cf := cf) (hco (i - 2)) a1 (cn (i - 2))
    have : e = i - 1 ∨ e = i - 2 := by omega
    rcases this with rfl | rfl
    · exact b2 (a3 o ho hn) h
    · exact b3 o ho hn h
  · rw [if_neg h2] at h
    have : e = i - 1 := by omega
    subst this
    exact a3 o ho hn h
theorem goZ_pos {f : Nat} (h : goZ A B' k c = some f) : 0 < shT A B' k f c := by
  unfold goZ at h
  split at h
  · cases h; assumption
  · cases h
theorem nxZ_pos (h : nxZ H P c p k = some (a, b)) : 0 < shT (H p) (H a) k b c := by
  unfold nxZ at h
  split at h
  · split at h
    · cases h
      rename_i f hf
      exact goZ_pos hf
    · split at h
      · split at h
        · cases h
          rename_i f hf
          exact goZ_pos hf
        · cases h
      · cases h
  · cases h
theorem co_pos (hσ : SOK σ) (he : o < 64) (h : nxS σ e o = some (p, k)) : 0 < nI (shS σ p k e o) := by
  rw [nxS_z hσ he] at h
  have h1 := nxZ_pos h
  have h2 : shS σ p k e o ≤ sN σ := shT_le _
  have hN := sok_N hσ
  rw [show (0 : Int32) = nI 0 from rfl, z_il (by decide) (by omega)]
  exact h1
/-- only halos go on -/
theorem nxS_k (hσ : SOK σ) (h : nxS σ e o = some (p, k)) (ho : o < 64) : e < p ∧ p < sP σ ∧ k < sC σ p ∧ p ≤ e + 2 := by
  obtain ⟨h1, h2, h3⟩ := nxS_lt hσ ho h
  rw [nxS_z hσ ho] at h
  exact ⟨h1, h2, h3, nxZ_2 h⟩
/-- with halos named beyond 64 left out -/
def nx64 (σ : Sg) : Nat → Nat → Option (Nat × Nat) := fun e o => if e < sP σ ∧ o < sC σ e then nxS σ e o else none
theorem frS_64 (hp : p < sP σ) : frS σ p k = frM (sC σ) (nx64 σ) (fun e o => nI (shS σ p k e o)) p k := frM_cong fun e o he ho => ⟨(if_pos ⟨by omega, ho⟩).symm, rfl⟩
theorem nx64_s (h : nx64 σ e o = some (p, k)) : e < sP σ ∧ o < sC σ e ∧ nxS σ e o = some (p, k) := by
  unfold nx64 at h
  split at h
  · rename_i u; exact ⟨u.1, u.2, h⟩
  · cases h
theorem frS_some (hσ : SOK σ) (hp : p < sP σ) (h : frS σ p k = some (e, o)) : e < p ∧ o < sC σ e ∧ nxS σ e o = some (p, k) := by
  have h2 := frS_lt h
  rw [frS_64 hp] at h
  have h3 := fr_some (fun e o hn => by
    obtain ⟨u1, u2, u3⟩ := nx64_s hn
    exact co_pos hσ (by have := sok_C hσ u1; omega) u3) h
  exact ⟨h2.1, h2.2, (nx64_s h3).2.2⟩
theorem frS_none (hσ : SOK σ) (hp : p < sP σ) (h : frS σ p k = none) (he : e < sP σ) (ho : o < sC σ e) : nxS σ e o ≠ some (p, k) := by
  intro hn
  obtain ⟨h1, h2, h3, h4⟩ := nxS_k hσ hn (by have := sok_C hσ he; omega)
  rw [frS_64 hp] at h
  exact fr_none (fun e o hn => by
    obtain ⟨u1, u2, u3⟩ := nx64_s hn
    exact co_pos hσ (by have := sok_C hσ u1; omega) u3) h e o ho h1 h4 (by rw [nx64, if_pos ⟨he, ho⟩]; exact hn)
/-- trees -/
theorem isS_mono (h : ∀ j x, S0 j x = true → S j x = true) (h2 : isS nx S0 m o = true) : isS nx S m o = true := by
  unfold isS at h2 ⊢
  split at h2
  · cases h2
  · exact h _ _ h2
theorem ctB_mono {u v : Nat → Bool} (h : ∀ j, u j = true → v j = true) : ∀ n, ctB u n ≤ ctB v n
  | 0 => Nat.le_refl _
  | n + 1 => by
    have := ctB_mono h n
    rw [ctB_s, ctB_s]
    by_cases e : u n = true
    · rw [if_pos e, if_pos (h n e)]; omega
    · rw [if_neg e]; split <;> omega
theorem cnZ_mono : ∀ m S z, z ≤ cnZ nx cn true m S z
  | 0, _, _ => Nat.le_refl _
  | m + 1, S, z => Nat.le_trans (Nat.le_add_right _ _) (cnZ_mono m _ _)
theorem cnZ_up (hc : ∀ m, m < p → cn m ≤ 64) {al : Bool} : ∀ m, m ≤ p → ∀ S z, cnZ nx cn al m S z ≤ z + 64 * m
  | 0, _, _, _ => Nat.le_add_right _ _
  | m + 1, hm, S, z => by
    have h1 := cnZ_up hc (al := al) m (by omega) (cnS nx cn al m S) (z + ctB (isS nx S m) (cn m))
    have h2 := ctB_le (p := isS nx S m) (cn m)
    have h3 := hc m (by omega)
    show cnZ nx cn al m (cnS nx cn al m S) (z + ctB (isS nx S m) (cn m)) ≤ _
    omega
/-- at least itself and those that go on in it -/
theorem cn_on : ∀ m, m ≤ p → ∀ (S : Nat → Nat → Bool) (z z0 : Nat), (∀ j x, oneS p k j x = true → S j x = true) → z0 + 1 ≤ z → cnZ nx cn false m (oneS p k) z0 + 1 ≤ cnZ nx cn true m S z
  | 0, _, _, _, _, _, hz => hz
  | m + 1, hm, S, z, z0, hS, hz => by
    rw [cnZ_s1 (by omega)]
    refine cn_on m (by omega) (cnS nx cn true m S) _ _ (fun j x hj => ?_) ?_
    · unfold cnS
      have : j = p ∧ x = k := of_decide_eq_true hj
      rw [if_neg (by omega)]
      exact hS j x hj
    · have h1 : ctB (fun o => decide (nx m o = some (p, k))) (cn m) ≤ ctB (isS nx S m) (cn m) := ctB_mono (fun o ho => isS_mono hS (by rw [isS_one]; exact ho)) _
      omega
theorem cn_pos (he : e < p) (ho : o < cn e) (hn : nx e o = some (p, k)) : ∀ m, m ≤ p → ∀ z, e < m → z + 1 ≤ cnZ nx cn false m (oneS p k) z
  | 0, _, _, h => absurd h (by omega)
  | m + 1, hm, z, h => by
    rw [cnZ_s1 (by omega)]
    by_cases e1 : e = m
    · subst e1
      have h1 := ctB_pos (p := fun o => decide (nx e o = some (p, k))) (k := o) (decide_eq_true hn) (cn e) ho
      have h2 : ∀ m, m ≤ p → ∀ z, z ≤ cnZ nx cn false m (oneS p k) z := by
        intro m
        induction m with
        | zero => intro _ z; exact Nat.le_refl _
        | succ m ih =>
          intro hm z
          rw [cnZ_s1 (by omega)]
          exact Nat.le_trans (Nat.le_add_right _ _) (ih (by omega) _)
      have h3 := h2 e (by omega) (z + ctB (fun o => decide (nx e o = some (p, k))) (cn e))
      omega
    · have h1 := cn_pos he ho hn m (by omega) (z + ctB (fun o => decide (nx m o = some (p, k))) (cn m)) (by omega)
      omega
/-- alone, if none goes on in it -/
theorem cn_one (h : ∀ m o, m < p → o < cn m → nx m o ≠ some (p, k)) {al : Bool} : ∀ m, m ≤ p → ∀ z, cnZ nx cn al m (oneS p k) z = z
  | 0, _, _ => rfl
  | m + 1, hm, z => by
    have e1 : ∀ o, o < cn m → isS nx (oneS p k) m o = false := fun o ho => by
      rw [isS_one]
      exact decide_eq_false (h m o (by omega) ho)
    have e2 : cnS nx cn al m (oneS p k) = oneS p k := by
      funext j x
      unfold cnS
      split
      · rename_i u
        rw [e1 x u.2, Bool.false_and]
        exact (decide_eq_false (fun v => by omega)).symm
      · rfl
    show cnZ nx cn al m (cnS nx cn al m (oneS p k)) (z + ctB (isS nx (oneS p k) m) (cn m)) = z
    rw [e2, ctB_z e1]
    exact cn_one h m (by omega) z
/-- a step down the branch -/
theorem cn_step (hn : nx e o = some (j, x)) (ho : o < cn e) : ∀ m, e < m → m ≤ j → ∀ (S : Nat → Nat → Bool) (z : Nat), S j x = true → ∃ S2 z2, cnZ nx cn true m S z = cnZ nx cn true e S2 z2 ∧ S2 e o = true ∧ z + 1 ≤ z2
  | 0, h, _, _, _, _ => absurd h (by omega)
  | m + 1, h, hj, S, z, hS => by
    have hi : nx e o = some (j, x) → isS nx S e o = true := fun hn => by unfold isS; rw [hn]; exact hS
    by_cases e1 : e = m
    · subst e1
      refine ⟨_, _, rfl, ?_, ?_⟩
      · unfold cnS
        rw [if_pos ⟨rfl, ho⟩, hi hn]
        rfl
      · have := ctB_pos (p := isS nx S e) (k := o) (hi hn) (cn e) ho
        omega
    · obtain ⟨S2, z2, h1, h2, h3⟩ := cn_step hn ho m (by omega) (by omega) (cnS nx cn true m S) (z + ctB (isS nx S m) (cn m)) (by
        unfold cnS
        rw [if_neg (by omega)]
        exact hS)
      exact ⟨S2, z2, h1, h2, by omega⟩
theorem cn_br (hf : ∀ j x e o, j < P → fr j x = some (e, o) → e < j ∧ o < cn e ∧ nx e o = some (j, x)) : ∀ (n j x : Nat), j < n → j < P → ∀ (S : Nat → Nat → Bool) (z : Nat), S j x = true → z + chN fr n j x ≤ cnZ nx cn true j S z + 1
  | 0, _, _, h, _, _, _, _ => absurd h (by omega)
  | n + 1, j, x, h, hj, S, z, hS => by
    cases e1 : fr j x with
    | none =>
      have : chN fr (n + 1) j x = 1 := by unfold chN; rw [e1]
      rw [this]
      have := cnZ_mono (nx := nx) (cn := cn) j S z
      omega
    | some q =>
      obtain ⟨e, o⟩ := q
      have e2 : chN fr (n + 1) j x = 1 + chN fr n e o := by rw [chN, e1]
      obtain ⟨h1, h2, h3⟩ := hf j x e o hj e1
      obtain ⟨S2, z2, h4, h5, h6⟩ := cn_step (cn := cn) h3 h2 j h1 (Nat.le_refl _) S z hS
      have := cn_br hf n e o (by omega) (by omega) S2 z2 h5
      rw [e2, h4]
      omega
theorem ch_up : ∀ n e o, chN fr n e o ≤ n
  | 0, _, _ => Nat.le_refl _
  | n + 1, e, o => by
    rw [chN]
    cases fr e o with
    | none => show 1 ≤ n + 1; omega
    | some q =>
      have := ch_up n q.1 q.2
      show 1 + chN fr n q.1 q.2 ≤ n + 1
      omega
/-- gas: nothing is lost, all in hundreds -/
def zB (c n z : Nat) (B : Nat → Bool) (V : Nat → Nat → Nat) : Prop := (∃ T : Nat → Nat, (∀ m, n ≤ m → m < 768 → totN (V m) = T m) ∧ z + smN T 768 ≤ 100 * ctB B c) ∧ ∀ m, m < 768 → totN (V m) % 100 = 0
theorem zB_mono (h : zB c n z B V) (hn : n ≤ m) : zB c m z B V := by
  obtain ⟨⟨T, h1, h2⟩, h3⟩ := h
  exact ⟨⟨T, fun x hx => h1 x (by omega), h2⟩, h3⟩
theorem zB_N (hk : k < c) (hH : ∀ h, H p k = some h → h < 64) (hp : p < 12) (hb : zB c (64 * p) z B V) : zB c (64 * p) z (vN H p k (B, V)).1 (vN H p k (B, V)).2 := by
  unfold vN
  cases e : H p k with
  | none => exact hb
  | some h =>
    have hh := hH h e
    dsimp only
    by_cases c1 : B k = true
    · rw [if_pos c1]; exact hb
    · rw [if_neg c1]
      obtain ⟨⟨T, h1, h2⟩, h3⟩ := hb
      have hct : ctB (up B k true) c = ctB B c + 1 := by
        rw [ctB_rm (P := up B k true) (k := k) up_s c, if_pos hk]
        congr 1
        refine ctB_cong fun j hj => ?_
        by_cases q : j = k
        · rw [q, up_s, decide_eq_true (show k = k from rfl)]
          cases hb : B k
          · rfl
          · exact absurd hb c1
        · rw [up_n q, decide_eq_false q]; simp
      have hT := smN_up (f := T) (v := T (64 * p + h) + 100) (show 64 * p + h < 768 by omega)
      have hV : totN (up (V (64 * p + h)) 0 (V (64 * p + h) 0 + 100)) = T (64 * p + h) + 100 := by
        rw [← h1 (64 * p + h) (by omega) (by omega)]
        unfold totN
        rw [up_s, up_n (by decide), up_n (by decide), up_n (by decide)]
        omega
      refine ⟨⟨up T (64 * p + h) (T (64 * p + h) + 100), fun m hm hm2 => ?_, ?_⟩, fun m hm => ?_⟩
      · dsimp only
        by_cases q : m = 64 * p + h
        · rw [q, up_s, up_s, hV]
        · rw [up_n q, up_n q]; exact h1 m hm hm2
      · dsimp only
        omega
      · dsimp only
        by_cases q : m = 64 * p + h
        · have := h3 (64 * p + h) (by omega)
          rw [h1 (64 * p + h) (by omega) (by omega)] at this
          rw [q, up_s, hV]; omega
        · rw [up_n q]; exact h3 m hm
theorem zB_C (hc : co ≤ 1000) (hf : fo ≤ 1000) (hb : zB c n z B V) : zB c n z B (vC co fo wi n V) := by
  obtain ⟨⟨T, h1, h2⟩, h3⟩ := hb
  have key : ∀ m, totN (vC co fo wi n V m) = totN (V m) := fun m => by
    unfold vC
    by_cases q : m = n
    · rw [q, up_s, c4_tot hc hf]
    · rw [up_n q]
  exact ⟨⟨T, fun m hm hm2 => by rw [key m]; exact h1 m hm hm2, h2⟩, fun m hm => by rw [key m]; exact h3 m hm⟩
theorem zB_G (hm : n < m) (hm2 : m < 768) (hb : zB c n z B V) : zB c (n + 1) z B (vG n m V) := by
  obtain ⟨⟨T, h1, h2⟩, h3⟩ := hb
  have a1 := h1 n (Nat.le_refl _) (by omega)
  have a2 := h1 m (by omega) hm2
  have s1 := smN_up (f := T) (v := 0) (show n < 768 by omega)
  have s2 := smN_up (f := up T n 0) (v := T m + T n) hm2
  rw [up_n (by omega)] at s2
  have hV : totN (fun w => V m w + V n w) = T m + T n := by
    rw [← a1, ← a2]
    show (V m 0 + V n 0) + (V m 1 + V n 1) + (V m 2 + V n 2) + (V m 3 + V n 3) = (V m 0 + V m 1 + V m 2 + V m 3) + (V n 0 + V n 1 + V n 2 + V n 3)
    omega
  refine ⟨⟨up (up T n 0) m (T m + T n), fun x hx hx2 => ?_, by omega⟩, fun x hx => ?_⟩
  · unfold vG
    by_cases q : x = m
    · rw [q, up_s, up_s, hV]
    · rw [up_n q, up_n q, up_n (by omega)]
      exact h1 x (by omega) hx2
  · unfold vG
    have b1 := h3 n (by omega)
    have b2 := h3 m hm2
    by_cases q : x = m
    · rw [q, up_s, hV, ← a1, ← a2]; omega
    · rw [up_n q]; exact h3 x hx
theorem zB_S (hc : co ≤ 1000) (hf : fo ≤ 1000) (hk : k < 64) (hp : p < 12) (hx : ∀ a b, nx p k = some (a, b) → p < a ∧ a < 12 ∧ b < 64) (hb : zB c (64 * p + k) z B V) : zB c (64 * p + k + 1) (vS nx co fo wi p k (z, V)).1 B (vS nx co fo wi p k (z, V)).2 := by
  have hb2 := zB_C (wi := wi) hc hf hb
  unfold vS
  cases e : nx p k with
  | none =>
    obtain ⟨⟨T, h1, h2⟩, h3⟩ := hb2
    have s1 := smN_up (f := T) (v := 0) (show 64 * p + k < 768 by omega)
    have a1 := h1 (64 * p + k) (Nat.le_refl _) (by omega)
    refine ⟨⟨up T (64 * p + k) 0, fun m hm hm2 => ?_, ?_⟩, h3⟩
    · rw [up_n (by omega)]
      exact h1 m (by omega) hm2
    · dsimp only
      omega
  | some q =>
    obtain ⟨a, b⟩ := q
    have := hx a b e
    exact zB_G (by omega) (by omega) hb2
theorem zB_A (hP : P ≤ 12) (hc : co ≤ 1000) (hf : fo ≤ 1000) (hH : ∀ p k h, p < P → k < c → H p k = some h → h < 64) (hcn : ∀ p, p < P → cn p ≤ 64) (hx : ∀ p k a b, p < P → k < cn p → nx p k = some (a, b) → p < a ∧ a < 12 ∧ b < 64) : ∀ t, t ≤ P → zB c (64 * t) (vA H cn nx co fo wi c t).1 (vA H cn nx co fo wi c t).2.1 (vA H cn nx co fo wi c t).2.2
  | 0, _ => ⟨⟨fun _ => 0, fun _ _ _ => rfl, by
    have : ∀ n, smN (fun _ => 0) n = 0 := by
      intro n
      induction n with
      | zero => rfl
      | succ n ih => rw [smN_s, ih]
    rw [this]
    exact Nat.zero_le _⟩, fun _ _ => rfl⟩
  | t + 1, ht => by
    have ih := zB_A hP hc hf hH hcn hx t (by omega)
    have e : vA H cn nx co fo wi c (t + 1) = vP H cn nx co fo wi c t (vA H cn nx co fo wi c t) := rfl
    rw [e]
    generalize vA H cn nx co fo wi c t = Q at ih
    obtain ⟨z, B, V⟩ := Q
    have h1 : ∀ d, d ≤ c → zB c (64 * t) z (it d (B, V) (vN H t)).1 (it d (B, V) (vN H t)).2 := by
      intro d
      induction d with
      | zero => intro _; exact ih
      | succ d ih2 =>
        intro hd
        have h := ih2 (by omega)
        rw [it_s]
        exact zB_N (B := (it d (B, V) (vN H t)).1) (V := (it d (B, V) (vN H t)).2) (by omega) (fun h => hH t d h (by omega) (by omega)) (by omega) h
    have h2 := h1 c (Nat.le_refl _)
    show zB c (64 * (t + 1)) (it (cn t) (z, (it c (B, V) (vN H t)).2) (vS nx co fo wi t)).1 (it c (B, V) (vN H t)).1 (it (cn t) (z, (it c (B, V) (vN H t)).2) (vS nx co fo wi t)).2
    generalize it c (B, V) (vN H t) = Q2 at h2 ⊢
    obtain ⟨B2, V2⟩ := Q2
    have h3 : ∀ d, d ≤ cn t → zB c (64 * t + d) (it d (z, V2) (vS nx co fo wi t)).1 B2 (it d (z, V2) (vS nx co fo wi t)).2 := by
      intro d
      induction d with
      | zero => intro _; exact h2
      | succ d ih2 =>
        intro hd
        have h := ih2 (by omega)
        have h64 := hcn t (by omega)
        rw [it_s]
        exact zB_S (z := (it d (z, V2) (vS nx co fo wi t)).1) (V := (it d (z, V2) (vS nx co fo wi t)).2) hc hf (by omega) (by omega) (fun a b he => hx t d a b (by omega) (by omega) he) h
    have h4 := zB_mono (h3 (cn t) (Nat.le_refl _)) (m := 64 * (t + 1)) (by have := hcn t (by omega); omega)
    exact h4
theorem gas_ok (hσ : SOK σ) : kA (nxS σ) (sC σ) (vaS σ).2.2 (sP σ) ≤ 100 * sN σ ∧ ∀ n, n < 768 → totN ((vaS σ).2.2 n) % 100 = 0 ∧ totN ((vaS σ).2.2 n) ≤ 6400 := by
  have hP := sok_P hσ
  obtain ⟨r1, r2, r3⟩ := sok_rec hσ
  have hk := vA_k (H := sH σ) (c := sN σ) (co := sq σ 7) (fo := sq σ 8) (wi := sq σ 9) (cn := sC σ) (nx := nxS σ) hP (fun p hp => sok_C hσ hp) (fun p k a b hp hk e => (nxS_b hσ p k a b hp hk e).1) (sP σ) (Nat.le_refl _)
  have h := zB_A (H := sH σ) (cn := sC σ) (nx := nxS σ) (c := sN σ) (wi := sq σ 9) hP r1 r2 (fun p k h hp hk e => by have := sok_H hσ hp hk e; have := sok_C hσ hp; omega) (fun p hp => sok_C hσ hp) (fun p k a b hp hk e => by
    obtain ⟨h1, h2, h3⟩ := nxS_b hσ p k a b hp hk e
    have := sok_C hσ h2
    omega) (sP σ) (Nat.le_refl _)
  have e : kA (nxS σ) (sC σ) (vaS σ).2.2 (sP σ) = (vaS σ).1 := hk.symm
  obtain ⟨⟨T, -, h2⟩, h3⟩ := h
  have h4 := ctB_le (p := (vA (sH σ) (sC σ) (nxS σ) (sq σ 7) (sq σ 8) (sq σ 9) (sN σ) (sP σ)).2.1) (sN σ)
  refine ⟨?_, fun n hn => ⟨h3 n hn, (gl_vS hσ).2.2 n hn⟩⟩
  rw [e]
  have h5 : (vaS σ).1 + smN T 768 ≤ 100 * ctB (vA (sH σ) (sC σ) (nxS σ) (sq σ 7) (sq σ 8) (sq σ 9) (sN σ) (sP σ)).2.1 (sN σ) := h2
  omega
end
