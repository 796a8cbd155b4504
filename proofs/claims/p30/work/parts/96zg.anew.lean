section
variable {σ : Sg} {c l n a b s h x k t S p q m lo : Nat} {L L2 : Nat → Nat → Bool} {I I2 : hf_I} {J J2 : hf_J} {g : hf_G} {R : Nat → Option Nat} {M N N2 ld : Nat → Nat} {O : Nat → Int64} {i j y z : Int32}
theorem ctB_rm {P : Nat → Bool} (hk : P k = true) : ∀ n, ctB P n = ctB (fun j => P j && !decide (j = k)) n + (if k < n then 1 else 0)
  | 0 => rfl
  | n + 1 => by
    rw [ctB_s, ctB_s, ctB_rm hk n]
    by_cases e : n = k
    · subst e
      simp [hk]
    · have e2 : (k < n + 1) = (k < n) := by apply propext; omega
      simp only [e2]
      cases hp : P n
      · simp
      · have : (true && !decide (n = k)) = true := by simp [e]
        rw [if_pos rfl, if_pos this]
        omega
/-- what is told one by one -/
theorem ctB_enum : ∀ (n : Nat) (P : Nat → Bool) (e : Nat → Nat), (∀ h, h < n → e h < c ∧ P (e h) = true) → (∀ h i, h < n → i < n → e h = e i → h = i) → (∀ k, k < c → P k = true → ∃ h, h < n ∧ e h = k) → ctB P c = n
  | 0, P, e, _, _, h3 => ctB_z fun j hj => by
    cases hp : P j
    · rfl
    · obtain ⟨h, hh, -⟩ := h3 j hj hp
      exact absurd hh (Nat.not_lt_zero _)
  | n + 1, P, e, h1, h2, h3 => by
    obtain ⟨a1, a2⟩ := h1 n (by omega)
    rw [ctB_rm a2 c, if_pos a1, ctB_enum n (fun j => P j && !decide (j = e n)) e (fun h hh => ⟨(h1 h (by omega)).1, ?_⟩) (fun h i hh hi => h2 h i (by omega) (by omega)) (fun k hk hp => ?_)]
    · have : ¬ e h = e n := fun q => by have := h2 h n (by omega) (by omega) q; omega
      simp [(h1 h (by omega)).2, this]
    · simp only [Bool.and_eq_true, Bool.not_eq_true', decide_eq_false_iff_not] at hp
      obtain ⟨h, hh, e1⟩ := h3 k hk hp.1
      refine ⟨h, ?_, e1⟩
      by_cases q : h = n
      · subst q; exact absurd e1.symm hp.2
      · omega
/-- names that were joined so far -/
def jnI (c : Nat) (L : Nat → Nat → Bool) (M : Nat → Nat) (Q : Nat → Nat → Prop) (N : Nat → Nat) : Prop :=
  (∀ a, a < c → N a < c) ∧ (∀ a b, a < c → b < c → N a = N b → M a = M b) ∧ ∀ a b, a < b → b < c → Q a b → L a b = true → N a = N b
theorem rnN_j {Q : Nat → Nat → Prop} (hh : a < b ∧ b < c) (hl : L a b = true) (hm : mkd L c M) (hs : ∀ a b, a < c → b < c → L a b = L b a) (h : jnI c L M Q N) : jnI c L M (fun x y => Q x y ∨ (x = a ∧ y = b)) (rnN (N b) (N a) N) := by
  obtain ⟨h1, h2, h3⟩ := h
  have hM : M a = M b := mkd_ln hm hs (by omega) hh.2 hl
  refine ⟨fun x hx => ?_, fun x y hx hy e => ?_, fun x y hxy hy hq hxl => ?_⟩
  · unfold rnN
    split
    · exact h1 a (by omega)
    · exact h1 x hx
  · unfold rnN at e
    by_cases c1 : N x = N b
    · have hx2 := h2 x b hx hh.2 c1
      by_cases c2 : N y = N b
      · rw [hx2, h2 y b hy hh.2 c2]
      · rw [if_pos c1, if_neg c2] at e
        rw [hx2, ← hM]
        exact h2 a y (by omega) hy e
    · by_cases c2 : N y = N b
      · rw [if_neg c1, if_pos c2] at e
        rw [h2 y b hy hh.2 c2, ← hM]
        exact h2 x a hx (by omega) e
      · rw [if_neg c1, if_neg c2] at e
        exact h2 x y hx hy e
  · unfold rnN
    rcases hq with hq | ⟨rfl, rfl⟩
    · rw [h3 x y hxy hy hq hxl]
    · rw [if_pos rfl]
      split <;> rfl
theorem jnI_mono {Q Q2 : Nat → Nat → Prop} (hq : ∀ a b, a < b → b < c → Q2 a b → Q a b) (h : jnI c L M Q N) : jnI c L M Q2 N := ⟨h.1, h.2.1, fun a b hab hb h2 hl => h.2.2 a b hab hb (hq a b hab hb h2) hl⟩
theorem jnN_j (hlo : lo < c) (hm : mkd L c M) (hs : ∀ a b, a < c → b < c → L a b = L b a) (h : jnI c L M (fun x _ => x < lo) N) : ∀ t, lo + 1 + t ≤ c → jnI c L M (fun x y => x < lo ∨ (x = lo ∧ y < lo + 1 + t)) (jnN c L lo N t)
  | 0, _ => jnI_mono (fun a b hab hb q => by first | omega | (dsimp only at q ⊢; omega)) h
  | t + 1, ht => by
    have ih := jnN_j hlo hm hs h t (by omega)
    rw [jnN_s]
    by_cases c1 : L lo (lo + (1 + t)) = true
    · rw [if_pos c1]
      exact jnI_mono (fun a b hab hb q => by first | omega | (dsimp only at q ⊢; omega)) (rnN_j (a := lo) (b := lo + (1 + t)) ⟨by omega, by omega⟩ c1 hm hs ih)
    · rw [if_neg c1]
      refine ⟨ih.1, ih.2.1, fun a b hab hb q hl => ?_⟩
      by_cases e : a = lo ∧ b = lo + (1 + t)
      · obtain ⟨rfl, rfl⟩ := e
        exact absurd hl c1
      · exact ih.2.2 a b hab hb (by omega) hl
theorem jnA_j (hm : mkd L c M) (hs : ∀ a b, a < c → b < c → L a b = L b a) : ∀ t, t ≤ c → jnI c L M (fun x _ => x < t) (jnA c L t)
  | 0, _ => ⟨fun a ha => ha, fun a b _ _ e => by
    have e2 : a = b := e
    rw [e2], fun a b _ _ q => absurd q (Nat.not_lt_zero _)⟩
  | t + 1, ht => by
    have ih := jnA_j hm hs t (by omega)
    have e : jnA c L (t + 1) = jnN c L t (jnA c L t) (c - (t + 1)) := rfl
    rw [e]
    exact jnI_mono (fun a b hab hb q => by first | omega | (dsimp only at q ⊢; omega)) (jnN_j (by omega) hm hs ih (c - (t + 1)) (by omega))
/-- the names tell the groups -/
theorem jn_eq (hm : mkd L c M) (hs : ∀ a b, a < c → b < c → L a b = L b a) (ha : a < c) (hb : b < c) : jnA c L c a = jnA c L c b ↔ M a = M b := by
  obtain ⟨h1, h2, h3⟩ := jnA_j hm hs c (Nat.le_refl _)
  have key : ∀ x, x < c → jnA c L c x = jnA c L c (M x) := fun x hx => by
    have := (hm.1 x hx).2 (fun y => jnA c L c x = jnA c L c y) rfl (fun u w hu hw hxu hl => hxu.trans ?_)
    · exact this
    · by_cases q1 : u < w
      · exact h3 u w q1 hw hu hl
      · by_cases q2 : w < u
        · exact (h3 w u q2 hu hw (by rw [hs w u hw hu]; exact hl)).symm
        · have : u = w := by omega
          rw [this]
  refine ⟨h2 a b ha hb, fun e => ?_⟩
  rw [key a ha, key b hb, e]
theorem jn_count (hm : mkd L c M) (hs : ∀ a b, a < c → b < c → L a b = L b a) (hl1 : 1 ≤ l) (hE : EnH L c l R n) : ctB (fun k => decide (l ≤ szM (jnA c L c) c k)) c = n := by
  obtain ⟨M2, ld, m2, a1, a2, a3, a4⟩ := hE
  have hj := jnA_j m2 hs c (Nat.le_refl _)
  have hq := fun a b ha hb => jn_eq (a := a) (b := b) m2 hs ha hb
  generalize jnA c L c = N at hj hq
  have hsz : ∀ j, j < c → szM N c (N j) = szM M2 c (M2 j) := fun j hj2 => ctB_cong fun x hx => decide_eq_decide.mpr (hq x j hx hj2)
  refine ctB_enum n _ (fun h => N (ld h)) (fun h hh => ?_) (fun h i hh hi e => ?_) (fun k hk hp => ?_)
  · obtain ⟨b1, b2, b3⟩ := a1 h hh
    refine ⟨hj.1 _ b1, decide_eq_true ?_⟩
    show l ≤ szM N c (N (ld h))
    rw [hsz _ b1, b2]
    exact b3
  · obtain ⟨b1, b2, b3⟩ := a1 h hh
    obtain ⟨d1, d2, d3⟩ := a1 i hi
    have := (hq _ _ b1 d1).mp e
    rw [b2, d2] at this
    by_cases q1 : h < i
    · have w := a2 h i q1 hi; rw [this] at w; unfold bef at w; omega
    · by_cases q2 : i < h
      · have w := a2 i h q2 hh; rw [this] at w; unfold bef at w; omega
      · omega
  · have hp2 := of_decide_eq_true hp
    obtain ⟨j, j1, j2⟩ := sz_pos (M := N) (k := k) c (show 0 < szM N c k by omega)
    rw [← j2, hsz j j1] at hp2
    obtain ⟨h, hh, e⟩ := a3 (M2 j) (mkd_lt m2 j1) (mkd_id m2 hs j1) hp2
    refine ⟨h, hh, ?_⟩
    show N (ld h) = k
    rw [e, ← j2]
    exact (hq _ _ (mkd_lt m2 j1) j1).mpr (mkd_id m2 hs j1)
theorem beF_z (hN : ∀ j, j < c → N j < c) (hc2 : c ≤ 64) : ∀ t, t ≤ c → ∀ k, k < 64 → beF c N O t k = lZ (ctB (fun j => decide (N j = k)) t)
  | 0, _, k, hk => if_pos hk
  | t + 1, ht, k, hk => by
    have ih := beF_z hN hc2 t (by omega)
    have e : beF c N O (t + 1) = up (beF c N O t) (N t) (beF c N O t (N t) + 1) := rfl
    have hn := hN t (by omega)
    rw [e, ctB_s]
    by_cases c1 : N t = k
    · rw [c1, up_s, ih k hk, if_pos (decide_eq_true rfl), show (1 : Int64) = lZ 1 from rfl, lZ_add]
      rfl
    · rw [up_n (fun q => c1 q.symm), ih k hk, if_neg (fun q => c1 (of_decide_eq_true q))]
theorem cnN_z {B : Nat → Int64} {w : Nat → Nat} (hl : l ≤ 64) (hB : ∀ k, k < c → B k = lZ (w k) ∧ w k ≤ 64) : ∀ t, t ≤ c → cnN B (nI l) t = nI (ctB (fun k => decide (l ≤ w k)) t)
  | 0, _ => rfl
  | t + 1, ht => by
    have ih := cnN_z hl hB t (by omega)
    have e : cnN B (nI l) (t + 1) = if (nI l).toInt64 ≤ B t then cnN B (nI l) t + 1 else cnN B (nI l) t := rfl
    obtain ⟨b1, b2⟩ := hB t (by omega)
    have hq : ((nI l).toInt64 ≤ B t) = (l ≤ w t) := by
      rw [b1, nI_ll (by omega), lZ_le (lRs (by omega) (by omega)) (lRs (by omega) (by omega))]
      apply propext; omega
    rw [e, ih, ctB_s]
    by_cases c1 : l ≤ w t
    · rw [if_pos (hq.mpr c1), if_pos (decide_eq_true c1), z_1]
    · rw [if_neg (fun u => c1 (hq.mp u)), if_neg (fun u => c1 (of_decide_eq_true u))]
theorem jnA_cong (hL : ∀ a b, a < c → b < c → L a b = L2 a b) : ∀ t, t ≤ c → jnA c L t = jnA c L2 t
  | 0, _ => rfl
  | t + 1, ht => by
    have e : jnA c L (t + 1) = jnN c L t (jnA c L t) (c - (t + 1)) := rfl
    have e2 : jnA c L2 (t + 1) = jnN c L2 t (jnA c L2 t) (c - (t + 1)) := rfl
    rw [e, e2, jnA_cong hL t (by omega)]
    exact it_cong fun k x hk => by rw [hL t (t + (1 + k)) (by omega) (by omega)]
theorem anew_n (hc2 : c ≤ 64) (hl1 : 1 ≤ l) (hl : l ≤ 64) (hs : ∀ a b, a < c → b < c → L2 a b = L2 b a) (hL : ∀ a b, a < c → b < c → L a b = L2 a b) (hE : EnH L2 c l R n) : cnN (beF c (jnA c L c) O c) (nI l) c = nI n := by
  obtain ⟨M, hm⟩ := mkd_ex L2 c
  rw [jnA_cong hL c (Nat.le_refl _)]
  have hj := (jnA_j hm hs c (Nat.le_refl _)).1
  have hn := jn_count hm hs hl1 hE
  generalize jnA c L2 c = N at hj hn
  rw [cnN_z (w := szM N c) hl (fun k hk => ⟨beF_z hj hc2 c (Nat.le_refl _) k (by omega), by have := szM_le N c k; omega⟩) c (Nat.le_refl _), hn]
/-- links in a slot's scene -/
theorem nrS (hσ : SOK σ) (hs : sl σ s) (hC : RC σ I J) (hS : gA s = S + 1) (hl : l ≤ 2000) (ha : a < sN σ) (hb : b < sN σ) : nrL (J (S + 3)) (J (S + 5)) (lZ l) a b = lkZ (sX σ s) (sY σ s) l a b := by
  obtain ⟨g1, g2⟩ := hC.2.1 s hs
  rw [hS] at g2
  obtain ⟨u1, u2, -, -⟩ := g2 a ha
  obtain ⟨w1, w2, -, -⟩ := g2 b hb
  obtain ⟨r1, r2⟩ := hσ.2.1 s a hs ha
  obtain ⟨r3, r4⟩ := hσ.2.1 s b hs hb
  obtain ⟨q, h1, h2⟩ := qZ_n (X := sX σ s) (Y := sY σ s) (a := a) (b := b)
  unfold nrL lkZ
  rw [show J (S + 3) a = lZ (sX σ s a) from u1, show J (S + 5) a = lZ (sY σ s a) from u2, show J (S + 3) b = lZ (sX σ s b) from w1, show J (S + 5) b = lZ (sY σ s b) from w2, wayL_z ⟨by omega, by omega⟩ ⟨by omega, by omega⟩, wayL_z ⟨by omega, by omega⟩ ⟨by omega, by omega⟩, sqL_z, lZ_mul]
  have h3 := mul_rng (w := l) (v := l) (a := 2000) (b := 2000) (by omega) (by omega)
  unfold qZ at h1
  rw [h1]
  exact decide_eq_decide.mpr (Iff.of_eq (lZ_le (lRs (by omega) (by omega)) (lRs (by omega) (by omega))))
end
