/-- the state with one more picture -/
def sgK (σ : Sg) (R : Nat → Option Nat) (n : Nat) : Sg := (up (sq σ) 15 (sP σ + 1), (fun s k => if s = sP σ then sX σ 12 k else sX σ s k), (fun s k => if s = sP σ then sY σ 12 k else sY σ s k), (fun s k => if s = sP σ then sU σ 12 k else sU σ s k), (fun s k => if s = sP σ then sW σ 12 k else sW σ s k), (fun p k => if p = sP σ then R k else sH σ p k), up (sC σ) (sP σ) n, up (sL σ) (sP σ) (sq σ 5), up (sT σ) (sP σ) (sq σ 6))
section
variable {σ : Sg} {I I2 K : hf_I} {J J2 : hf_J} {g : hf_G} {c k f l p n P t q a b d m s h : Nat} {i j x y : Int32} {w : Nat → Nat} {H : Nat → Int64} {v : Int64} {R : Nat → Option Nat} {A B : Nat → Option Nat} {cn : Nat → Nat} {Hs : Nat → Nat → Int64} {nx : Nat → Nat → Option (Nat × Nat)}
theorem mxN_fst : ∀ t f, f < mxN w t → w f < w (mxN w t)
  | 0, f, h => absurd h (Nat.not_lt_zero _)
  | t + 1, f, h => by
    have hm := mxN_le (w := w) t
    rw [mxN_s] at h ⊢
    by_cases c1 : w (t + 1) ≤ w (mxN w t)
    · rw [if_pos c1] at h ⊢
      exact mxN_fst t f h
    · rw [if_neg c1] at h ⊢
      have := mxN_max (w := w) t f (by omega)
      omega
theorem moF_z (hw : ∀ f, f < n → popI (H f &&& v) = nI (w f) ∧ w f ≤ 64) (hz : ∀ f, n ≤ f → w f = 0) (hn : n ≤ 64) : (moF H v n).1 = if 0 < w (mxN w 63) then nI (mxN w 63) else -1 := by
  have key : ∀ t, t ≤ n → ∃ m, (moF H v t).2 = nI m ∧ m ≤ 64 ∧ (((moF H v t).1 = -1 ∧ m = 0 ∧ ∀ f, f < t → w f = 0) ∨ ∃ b, b < t ∧ (moF H v t).1 = nI b ∧ m = w b ∧ 0 < w b ∧ (∀ f, f < t → w f ≤ w b) ∧ ∀ f, f < b → w f < w b) := by
    intro t
    induction t with
    | zero => intro _; exact ⟨0, rfl, by omega, Or.inl ⟨rfl, rfl, fun f hf => absurd hf (Nat.not_lt_zero _)⟩⟩
    | succ t ih =>
      intro ht
      obtain ⟨m, h1, h2, h3⟩ := ih (by omega)
      obtain ⟨w1, w2⟩ := hw t (by omega)
      have e : moF H v (t + 1) = if (moF H v t).2 < popI (H t &&& v) then (nI t, popI (H t &&& v)) else moF H v t := rfl
      rw [e, h1, w1]
      have hq : (nI m < nI (w t)) = (m < w t) := z_il (by omega) (by omega)
      by_cases c1 : m < w t
      · rw [if_pos (hq.mpr c1)]
        refine ⟨w t, rfl, w2, Or.inr ⟨t, by omega, rfl, rfl, by omega, fun f hf => ?_, fun f hf => ?_⟩⟩
        · by_cases e : f = t
          · rw [e]; exact Nat.le_refl _
          · rcases h3 with ⟨-, -, h3⟩ | ⟨b, -, -, h4, -, h5, -⟩
            · rw [h3 f (by omega)]; exact Nat.zero_le _
            · have := h5 f (by omega); omega
        · rcases h3 with ⟨-, -, h3⟩ | ⟨b, -, -, h4, -, h5, -⟩
          · rw [h3 f (by omega)]; omega
          · have := h5 f (by omega); omega
      · rw [if_neg (fun u => c1 (hq.mp u))]
        refine ⟨m, h1, h2, ?_⟩
        rcases h3 with ⟨a1, a2, a3⟩ | ⟨b, b1, b2, b3, b4, b5, b6⟩
        · refine Or.inl ⟨a1, a2, fun f hf => ?_⟩
          by_cases e : f = t
          · rw [e]; omega
          · exact a3 f (by omega)
        · refine Or.inr ⟨b, by omega, b2, b3, b4, fun f hf => ?_, b6⟩
          by_cases e : f = t
          · rw [e]; omega
          · exact b5 f (by omega)
  obtain ⟨m, h1, h2, h3⟩ := key n (Nat.le_refl _)
  have hm := mxN_le (w := w) 63
  rcases h3 with ⟨a1, a2, a3⟩ | ⟨b, b1, b2, b3, b4, b5, b6⟩
  · have : w (mxN w 63) = 0 := by
      by_cases q : mxN w 63 < n
      · exact a3 _ q
      · exact hz _ (by omega)
    rw [a1, if_neg (by omega)]
  · have g1 := mxN_max (w := w) 63 b (by omega)
    have g2 : w (mxN w 63) ≤ w b := by
      by_cases q : mxN w 63 < n
      · exact b5 _ q
      · rw [hz _ (by omega)]; exact Nat.zero_le _
    have g3 : mxN w 63 = b := by
      by_cases q1 : mxN w 63 < b
      · have := b6 _ q1; omega
      · by_cases q2 : b < mxN w 63
        · have := mxN_fst (w := w) 63 b q2; omega
        · omega
    rw [b2, if_pos (by omega), g3]
/-- the class joins as the model -/
theorem lgX_z (hc2 : c ≤ 64) (hcn : cn l ≤ 64) (hk : k < 64) (hA : ∀ j f, j < c → A j = some f → f < cn l) (hl : ∀ f x, f < cn l → x < 64 → btL (Hs l f) x = decide (x < c ∧ A x = some f)) (hp : ∀ x, x < 64 → btL (Hs p k) x = decide (x < c ∧ B x = some k)) : lgX cn Hs l p k = match goZ B A k c with
    | some f => some (l, f)
    | none => none := by
  have hpop : ∀ f, f < cn l → popI (Hs l f &&& Hs p k) = nI (shT B A k f c) := fun f hf => by
    rw [popI_n]
    congr 1
    have := ctB_cut (n := c) (p := btL (Hs l f &&& Hs p k)) (q := fun j => decide (B j = some k ∧ A j = some f)) (fun j hj => by
      rw [bt_and (by omega), hl f j hf (by omega), hp j (by omega), ← Bool.decide_and]
      exact decide_eq_decide.mpr ⟨fun u => ⟨u.2.2, u.1.2⟩, fun u => ⟨⟨hj, u.2⟩, hj, u.1⟩⟩) (64 - c) (fun j a b => by
      rw [bt_and (by omega), hl f j hf (by omega), decide_eq_false (fun u => by omega)]; rfl)
    rw [show c + (64 - c) = 64 by omega] at this
    exact this
  have hz : ∀ f, cn l ≤ f → shT B A k f c = 0 := fun f hf => ctB_z fun j hj => decide_eq_false fun u => by have := hA j f hj u.2; omega
  have hm := mxN_le (w := fun f => shT B A k f c) 63
  have h := moF_z (w := fun f => shT B A k f c) (H := Hs l) (v := Hs p k) (n := cn l) (fun f hf => ⟨hpop f hf, by have := shT_le (B := B) (A := A) (k := k) (f := f) c; omega⟩) hz hcn
  unfold lgX goZ
  rw [h]
  by_cases c1 : 0 < shT B A k (mxN (fun f => shT B A k f c) 63) c
  · rw [if_pos c1, if_pos c1, if_neg (nI_m1n (by omega)), nI_clamp (by omega)]
  · rw [if_neg c1, if_neg c1, if_pos rfl]
theorem sX_Kn : sX (sgK σ R n) (sP σ) = sX σ 12 ∧ sY (sgK σ R n) (sP σ) = sY σ 12 ∧ sU (sgK σ R n) (sP σ) = sU σ 12 ∧ sW (sgK σ R n) (sP σ) = sW σ 12 := ⟨funext fun _ => if_pos rfl, funext fun _ => if_pos rfl, funext fun _ => if_pos rfl, funext fun _ => if_pos rfl⟩
theorem sX_Ko (h : s ≠ sP σ) : sX (sgK σ R n) s = sX σ s ∧ sY (sgK σ R n) s = sY σ s ∧ sU (sgK σ R n) s = sU σ s ∧ sW (sgK σ R n) s = sW σ s := ⟨funext fun _ => if_neg h, funext fun _ => if_neg h, funext fun _ => if_neg h, funext fun _ => if_neg h⟩
theorem sH_Kn : sH (sgK σ R n) (sP σ) = R := funext fun _ => if_pos rfl
theorem sH_Ko (h : s ≠ sP σ) : sH (sgK σ R n) s = sH σ s := funext fun _ => if_neg h
theorem sC_Kn : sC (sgK σ R n) (sP σ) = n ∧ sL (sgK σ R n) (sP σ) = sq σ 5 ∧ sT (sgK σ R n) (sP σ) = sq σ 6 := ⟨up_s, up_s, up_s⟩
theorem sC_Ko (h : s ≠ sP σ) : sC (sgK σ R n) s = sC σ s ∧ sL (sgK σ R n) s = sL σ s ∧ sT (sgK σ R n) s = sT σ s := ⟨up_n h, up_n h, up_n h⟩
theorem sP_K : sP (sgK σ R n) = sP σ + 1 := by
  show up (sq σ) 15 (sP σ + 1) 15 = _
  exact up_s
theorem sN_K : sN (sgK σ R n) = sN σ := by
  show up (sq σ) 15 (sP σ + 1) 1 = sq σ 1
  exact up_n (by decide)
theorem sok_K (hσ : SOK σ) (hP : sP σ < 12) (hE : EnH (lkN σ) (sN σ) (sq σ 6) R n) (hn : n ≤ 64) : SOK (sgK σ R n) := by
  refine ⟨rng_up hσ.1 (by decide) (by decide) ⟨Nat.zero_le _, show sP σ + 1 ≤ 12 by omega⟩, fun s k hs hk => ?_, fun p hp => ?_⟩
  · unfold sl at hs
    rw [sP_K] at hs
    rw [sN_K] at hk
    by_cases e : s = sP σ
    · subst e
      obtain ⟨e1, e2, -, -⟩ := sX_Kn (σ := σ) (R := R) (n := n)
      rw [e1, e2]
      exact hσ.2.1 12 k (Or.inl rfl) hk
    · obtain ⟨e1, e2, -, -⟩ := sX_Ko (R := R) (n := n) e
      rw [e1, e2]
      exact hσ.2.1 s k (by unfold sl; omega) hk
  · rw [sP_K] at hp
    rw [sN_K]
    by_cases e : p = sP σ
    · subst e
      obtain ⟨e1, e2, -, -⟩ := sX_Kn (σ := σ) (R := R) (n := n)
      obtain ⟨e3, e4, e5⟩ := sC_Kn (σ := σ) (R := R) (n := n)
      rw [e1, e2, e3, e4, e5, sH_Kn]
      exact ⟨hE, (sok_6 hσ).1, (sok_6 hσ).2, (sok_5 hσ).1, (sok_5 hσ).2, hn⟩
    · obtain ⟨e1, e2, -, -⟩ := sX_Ko (R := R) (n := n) e
      obtain ⟨e3, e4, e5⟩ := sC_Ko (R := R) (n := n) e
      rw [e1, e2, e3, e4, e5, sH_Ko e]
      exact hσ.2.2 p (by omega)
/-- what goes on in what, with the new picture -/
theorem adN_z (hσ : SOK σ) (hP : sP σ < 12) (hE : EnH (lkN σ) (sN σ) (sq σ 6) R n) (hn : n ≤ 64) (hHs : ∀ q h k, q < sP σ + 1 → h < up (sC σ) (sP σ) n q → k < 64 → btL (Hs q h) k = decide (k < sN σ ∧ sH (sgK σ R n) q k = some h)) (hp : p < sP σ + 1) (hk : k < up (sC σ) (sP σ) n p) : adN (sP σ) (up (sC σ) (sP σ) n) Hs (nxS σ) p k = nxS (sgK σ R n) p k := by
  have hσ2 := sok_K hσ hP hE hn
  have hN := sok_N hσ
  have hc64 : ∀ q, q < sP σ + 1 → up (sC σ) (sP σ) n q ≤ 64 := fun q hq => by
    by_cases e : q = sP σ
    · rw [e, up_s]; exact hn
    · rw [up_n e]; exact sok_C hσ (by omega)
  have hk64 : k < 64 := by have := hc64 p hp; omega
  have hR : ∀ j f, j < sN σ → R j = some f → f < up (sC σ) (sP σ) n (sP σ) := fun j f hj e => by rw [up_s]; exact En_lt hE hj e
  have hX : p < sP σ → lgX (up (sC σ) (sP σ) n) Hs (sP σ) p k = match goZ (sH σ p) R k (sN σ) with
    | some f => some (sP σ, f)
    | none => none := fun hp2 => lgX_z hN.2 (hc64 _ (by omega)) hk64 hR (fun f x hf hx => by
      have := hHs (sP σ) f x (by omega) hf hx
      rw [sH_Kn] at this
      exact this) (fun x hx => by
      have := hHs p k x hp hk hx
      rw [sH_Ko (by omega)] at this
      exact this)
  rw [nxS_z hσ2 hk64, sP_K, sN_K]
  have hz := fun p => nxS_z (p := p) hσ hk64
  by_cases e0 : p = sP σ
  · have e1 : nxZ (sH (sgK σ R n)) (sP σ + 1) (sN σ) p k = none := by unfold nxZ; rw [if_neg (by omega)]
    rw [e1]
    have g3 : (if 1 ≤ sP σ then lgN (up (sC σ) (sP σ) n) Hs (up (nxS σ) (sP σ) (fun _ => none)) (sP σ) (sP σ - 1) else up (nxS σ) (sP σ) (fun _ => none)) p k = none := by
      by_cases c1 : 1 ≤ sP σ
      · rw [if_pos c1]
        unfold lgN
        rw [if_neg (by omega), e0, up_s]
      · rw [if_neg c1, e0, up_s]
    unfold adN
    generalize (if 1 ≤ sP σ then lgN (up (sC σ) (sP σ) n) Hs (up (nxS σ) (sP σ) (fun _ => none)) (sP σ) (sP σ - 1) else up (nxS σ) (sP σ) (fun _ => none)) = N1 at g3
    by_cases c2 : 2 ≤ sP σ
    · rw [if_pos c2]
      unfold lgN
      rw [if_neg (by omega), g3]
    · rw [if_neg c2, g3]
  · by_cases e1 : p + 1 = sP σ
    · have g1 : nxS σ p k = none := by rw [hz]; unfold nxZ; rw [if_neg (by omega)]
      have g2 : nxZ (sH (sgK σ R n)) (sP σ + 1) (sN σ) p k = match goZ (sH σ p) R k (sN σ) with
          | some f => some (sP σ, f)
          | none => none := by
        unfold nxZ
        rw [if_pos (by omega), sH_Ko (show p ≠ sP σ by omega), e1, sH_Kn]
        cases goZ (sH σ p) R k (sN σ) with
        | some f => rfl
        | none => dsimp only; rw [if_neg (by omega)]
      have g3 : (if 1 ≤ sP σ then lgN (up (sC σ) (sP σ) n) Hs (up (nxS σ) (sP σ) (fun _ => none)) (sP σ) (sP σ - 1) else up (nxS σ) (sP σ) (fun _ => none)) p k = lgX (up (sC σ) (sP σ) n) Hs (sP σ) (sP σ - 1) k := by
        rw [if_pos (by omega)]
        unfold lgN
        rw [up_n (by omega), if_pos ⟨by omega, g1⟩]
      rw [g2, ← hX (by omega)]
      unfold adN
      by_cases c2 : 2 ≤ sP σ
      · rw [if_pos c2]
        unfold lgN at g3 ⊢
        rw [if_neg (by omega), g3, show sP σ - 1 = p by omega]
      · rw [if_neg c2, g3, show sP σ - 1 = p by omega]
    · have c2 : 2 ≤ sP σ := by omega
      have g3 : (if 1 ≤ sP σ then lgN (up (sC σ) (sP σ) n) Hs (up (nxS σ) (sP σ) (fun _ => none)) (sP σ) (sP σ - 1) else up (nxS σ) (sP σ) (fun _ => none)) p k = nxS σ p k := by
        rw [if_pos (by omega)]
        unfold lgN
        rw [up_n (by omega), if_neg (by omega)]
      unfold adN
      rw [if_pos c2]
      generalize (if 1 ≤ sP σ then lgN (up (sC σ) (sP σ) n) Hs (up (nxS σ) (sP σ) (fun _ => none)) (sP σ) (sP σ - 1) else up (nxS σ) (sP σ) (fun _ => none)) = N1 at g3
      unfold lgN
      rw [g3]
      by_cases e2 : p + 2 = sP σ
      · have g4 : nxZ (sH (sgK σ R n)) (sP σ + 1) (sN σ) p k = match goZ (sH σ p) (sH σ (p + 1)) k (sN σ) with
            | some f => some (p + 1, f)
            | none => match goZ (sH σ p) R k (sN σ) with
              | some f => some (sP σ, f)
              | none => none := by
          unfold nxZ
          rw [if_pos (by omega), sH_Ko (show p ≠ sP σ by omega), sH_Ko (show p + 1 ≠ sP σ by omega), if_pos (by omega), e2, sH_Kn]
          rfl
        have g5 : nxS σ p k = match goZ (sH σ p) (sH σ (p + 1)) k (sN σ) with
            | some f => some (p + 1, f)
            | none => none := by
          rw [hz]
          unfold nxZ
          rw [if_pos (by omega), if_neg (by omega)]
          rfl
        rw [g4, g5, show sP σ - 2 = p by omega, hX (by omega)]
        cases goZ (sH σ p) (sH σ (p + 1)) k (sN σ) with
        | some f => dsimp only; rw [if_neg (by rintro ⟨-, u⟩; cases u)]
        | none => dsimp only; rw [if_pos ⟨rfl, rfl⟩]
      · rw [if_neg (by omega), hz]
        unfold nxZ
        rw [if_pos (by omega), if_pos (by omega), sH_Ko (show p ≠ sP σ by omega), sH_Ko (show p + 1 ≠ sP σ by omega), if_pos (by omega), if_pos (by omega), sH_Ko (show p + 2 ≠ sP σ by omega)]
theorem adJ_4 {A : Nat} (hk : k < 64) : adJ J A (A + 4) k = J 4 k ∧ adJ J A (A + 6) k = J 6 k ∧ adJ J A (A + 8) k = J 8 k ∧ adJ J A (A + 10) k = J 10 k := by
  unfold adJ rwm4 rwm2
  refine ⟨?_, ?_, ?_, ?_⟩
  · rw [rwm_ne (by omega), rwm_ne (by omega), rwm_ne (by omega), rwm_ne (by omega), rwm_lt hk]
  · rw [rwm_ne (by omega), rwm_ne (by omega), rwm_ne (by omega), rwm_lt hk]
  · rw [rwm_ne (by omega), rwm_ne (by omega), rwm_lt hk]
  · rw [rwm_ne (by omega), rwm_lt hk]
theorem cls_keep (hσ : SOK σ) (hL : Lay g) (hP : sP σ < 12) (hE : EnH (lkN σ) (sN σ) (sq σ 6) R n) (hn : n ≤ 64) (hC : RC σ I J) : cOK (sgK σ R n) g I J (some (.int (nI (sP σ)))) (hf_rn 122 0 [some (.ref 0)] [] g I J) := by
  have hN := sok_N hσ
  have hσ2 := sok_K hσ hP hE hn
  obtain ⟨hq, hg, hp⟩ := hC
  have hC : RC σ I J := ⟨hq, hg, hp⟩
  obtain ⟨q0, q1, q2, q3, q4, q5, q6, q7, q8, q9, q10, q11, q12, q13, q14, q15, q16⟩ := hq
  obtain ⟨J2, hr, hB, hJ⟩ := c_addA (c := sN σ) (s := sq σ 0) (n := sP σ) (v := J 0 7) (i := I 0 8) (sc_gr1 (hx_sc1 (lay_hx hL))) (RC_alb hσ hL hC) hP q0 q1 hN.2 q7 q8 q9
  have hf := fh_En (X := adJ J (34 + 17 * sP σ) (34 + 17 * sP σ + 4)) (Y := adJ J (34 + 17 * sP σ) (34 + 17 * sP σ + 6)) (v := lZ (sq σ 5)) (H := adJ J (34 + 17 * sP σ) (34 + 17 * sP σ + 12)) hN.2 (sok_6 hσ).2 (fun a b _ _ => lk_sym) (fun a b ha hb => by
    have h := nr_z (RC_rw hC) (now_ok hσ) (sok_5 hσ).2 ha hb
    unfold nrL at h ⊢
    rw [(adJ_4 (show a < 64 by omega)).1, (adJ_4 (show a < 64 by omega)).2.1, (adJ_4 (show b < 64 by omega)).1, (adJ_4 (show b < 64 by omega)).2.1]
    exact h) hE
  have hQ : (adQ J (34 + 17 * sP σ) (sN σ) (J 0 7) (I 0 8)).2.1 = n ∧ ∀ h x, h < n → x < 64 → btL ((adQ J (34 + 17 * sP σ) (sN σ) (J 0 7) (I 0 8)).2.2 h) x = decide (x < sN σ ∧ R x = some h) := by
    unfold adQ
    rw [q5, q6]
    exact hf
  have hK : ∀ r, (r < 34 + 17 * sP σ + 1 ∨ 34 + 17 * sP σ + 14 < r) → (∀ x, x < sP σ + 1 → r ≠ 34 + 17 * x + 14) → J2 r = J r := fun r h1 h2 => by
    rw [hJ r h2]
    unfold adK
    rw [kw_ne (by omega), ku_ne (by omega), adJ_n (by omega)]
  have hK4 : ∀ r, (r = 34 + 17 * sP σ + 4 ∨ r = 34 + 17 * sP σ + 6 ∨ r = 34 + 17 * sP σ + 8 ∨ r = 34 + 17 * sP σ + 10) → J2 r = adJ J (34 + 17 * sP σ) r := fun r h1 => by
    rw [hJ r (fun x hx => by omega)]
    unfold adK
    rw [kw_ne (by omega), ku_ne (by omega)]
  have hK1 : J2 (34 + 17 * sP σ + 1) 3 = lZ (sq σ 5) := by
    rw [hJ _ (fun x hx => by omega)]
    unfold adK
    rw [kw_ne (by omega), ku_same, q5]
  have hx := c_keepF (lay_hx hL) (lay_al hL) q15 hP hr
  rw [hQ.1] at hr hB hx
  generalize hQ2 : (adQ J (34 + 17 * sP σ) (sN σ) (J 0 7) (I 0 8)).2.2 = Q at hr hB hx hQ
  have hI : ∀ r, r ≠ 13 → (r < 34 + 17 * sP σ + 1 ∨ 34 + 17 * sP σ + 2 < r) → adI I (sP σ) (sq σ 0) (sN σ) (I 0 8) n r = I r := fun r h1 h2 => by
    unfold adI
    rw [ku_ne (by omega), ku_ne (by omega), ku_ne (by omega), ku_ne (by omega), ku_ne (by omega)]
  have hHs : ∀ q h k, q < sP σ + 1 → h < up (sC σ) (sP σ) n q → k < 64 → btL (up (fun i => J (34 + 17 * i + 12)) (sP σ) Q q h) k = decide (k < sN σ ∧ sH (sgK σ R n) q k = some h) := fun q h k hq2 hh hk => by
    by_cases e : q = sP σ
    · rw [e, up_s] at hh
      rw [e, up_s, sH_Kn]
      exact hQ.2 h k hh hk
    · rw [up_n e] at hh
      rw [up_n e, sH_Ko e]
      exact (hp q (by omega)).2.2.2.1 h k hh hk
  have hnx : ∀ p k, p < sP σ + 1 → k < up (sC σ) (sP σ) n p → adN (sP σ) (up (sC σ) (sP σ) n) (up (fun i => J (34 + 17 * i + 12)) (sP σ) Q) (nxS σ) p k = nxS (sgK σ R n) p k := fun p k h1 h2 => adN_z hσ hP hE hn hHs h1 h2
  have so : ∀ i, i ≠ 15 → sq (sgK σ R n) i = sq σ i := fun i hi => by
    show up (sq σ) 15 (sP σ + 1) i = sq σ i
    exact up_n hi
  have s7 := so 7 (by decide)
  have s8 := so 8 (by decide)
  have s9 := so 9 (by decide)
  have hRC := RC_gas (σ := sgK σ R n) (nx2 := adN (sP σ) (up (sC σ) (sP σ) n) (up (fun i => J (34 + 17 * i + 12)) (sP σ) Q) (nxS σ)) (Hs := up (fun i => J (34 + 17 * i + 12)) (sP σ) Q) (Ga := fun i => J2 (34 + 17 * i + 16)) (I := adI I (sP σ) (sq σ 0) (sN σ) (I 0 8) n) (J := J2) hσ2 (fun p k h1 h2 => hnx p k (by rw [sP_K] at h1; exact h1) h2) (fun q h k h1 h2 h3 => by
      rw [sN_K]
      rw [sP_K] at h1
      exact hHs q h k h1 h2 h3) ?_ ?_ ?_
  · rw [sP_K, s7, s8, s9] at hRC
    refine ⟨_, _, hx, hRC, fun r hr => ⟨hI r (by omega) (by omega), (gw_hi hr (by omega)).trans (hK r (by omega) (fun x hx => by omega))⟩⟩
  · unfold RCq
    rw [hI 2 (by decide) (by omega), hI 0 (by decide) (by omega), hI 257 (by decide) (by omega), hI 16 (by decide) (by omega), hK 238 (by omega) (fun x hx => by omega), hK 0 (by omega) (fun x hx => by omega), hK 13 (by omega) (fun x hx => by omega), hK 257 (by omega) (fun x hx => by omega), so 0 (by decide), so 1 (by decide), so 2 (by decide), so 3 (by decide), so 4 (by decide), so 5 (by decide), so 6 (by decide), s7, s8, s9, so 10 (by decide), so 11 (by decide), so 12 (by decide), so 13 (by decide), so 14 (by decide)]
    refine ⟨q0, q1, q2, q3, q4, q5, q6, q7, q8, q9, q10, q11, q12, q13, q14, ?_, q16⟩
    show _ = nI (up (sq σ) 15 (sP σ + 1) 15)
    rw [up_s]
    unfold adI
    rw [ku_ne (by omega), ku_ne (by omega), ku_ne (by omega), ku_ne (by omega), ku_same]
  · intro s hs
    unfold sl at hs
    rw [sP_K] at hs
    unfold RCg
    rw [sN_K]
    by_cases e : s = sP σ
    · subst e
      obtain ⟨e1, e2, e3, e4⟩ := sX_Kn (σ := σ) (R := R) (n := n)
      rw [e1, e2, e3, e4, gA_p hP]
      have hI5 : adI I (sP σ) (sq σ 0) (sN σ) (I 0 8) n (34 + 17 * sP σ + 2) 5 = nI (sN σ) := by
        unfold adI
        rw [ku_ne (by omega), ku_ne (by omega), ku_same]
      refine ⟨hI5, fun k hk => ?_⟩
      obtain ⟨a1, a2, a3, a4⟩ := (RC_g hC).2 k hk
      obtain ⟨d1, d2, d3, d4⟩ := adJ_4 (J := J) (A := 34 + 17 * sP σ) (show k < 64 by omega)
      rw [show 34 + 17 * sP σ + 2 + 2 = 34 + 17 * sP σ + 4 from rfl, show 34 + 17 * sP σ + 2 + 4 = 34 + 17 * sP σ + 6 from rfl, show 34 + 17 * sP σ + 2 + 6 = 34 + 17 * sP σ + 8 from rfl, show 34 + 17 * sP σ + 2 + 8 = 34 + 17 * sP σ + 10 from rfl, hK4 _ (Or.inl rfl), hK4 _ (Or.inr (Or.inl rfl)), hK4 _ (Or.inr (Or.inr (Or.inl rfl))), hK4 _ (Or.inr (Or.inr (Or.inr rfl))), d1, d2, d3, d4]
      exact ⟨a1, a2, a3, a4⟩
    · obtain ⟨e1, e2, e3, e4⟩ := sX_Ko (R := R) (n := n) e
      have h := hg s (by unfold sl; omega)
      have hgA : gA s = 2 ∨ (s < sP σ ∧ gA s = 36 + 17 * s) := by
        unfold gA
        rcases hs with hs | hs
        · exact Or.inl (if_pos hs)
        · exact Or.inr ⟨by omega, by rw [if_neg (by omega)]; omega⟩
      unfold RCg at h
      rw [e1, e2, e3, e4, hI (gA s) (by omega) (by omega), hK (gA s + 2) (by omega) (fun x hx => by omega), hK (gA s + 4) (by omega) (fun x hx => by omega), hK (gA s + 6) (by omega) (fun x hx => by omega), hK (gA s + 8) (by omega) (fun x hx => by omega)]
      exact h
  · intro p hp2
    rw [sP_K] at hp2
    rw [sN_K]
    have h14 : ∀ k, k < sC (sgK σ R n) p → J2 (34 + 17 * p + 14) k = cdL (nxS (sgK σ R n) p k) := fun k hk => by
      rw [← hnx p k hp2 hk]
      exact hB.2.2.2.2.2.2.1 p k hp2 hk
    by_cases e : p = sP σ
    · subst e
      obtain ⟨e3, e4, e5⟩ := sC_Kn (σ := σ) (R := R) (n := n)
      refine ⟨?_, ?_, ?_, fun h k hh hk => ?_, h14⟩
      · rw [e3]; unfold adI; rw [ku_same]
      · rw [e5]; unfold adI; rw [ku_ix (by decide), ku_same, q6]
      · rw [e4]; exact hK1
      · have := hHs (sP σ) h k hp2 hh hk
        rw [← this]
        exact congrFun (congrArg btL (congrFun (hB.2.2.2.2.2.1 (sP σ) hp2) h)) k
    · obtain ⟨e3, e4, e5⟩ := sC_Ko (R := R) (n := n) e
      obtain ⟨r1, r2, r3, r4, -, -⟩ := hp p (by omega)
      rw [hI _ (by omega) (by omega), hK (34 + 17 * p + 1) (by omega) (fun x hx => by omega), hK (34 + 17 * p + 12) (by omega) (fun x hx => by omega), sH_Ko e]
      rw [e3] at h14 ⊢
      rw [e4, e5]
      exact ⟨r1, r2, r3, r4, h14⟩
end
