abbrev K6 : Type := Nat × (Nat → Nat) × (Nat → Nat) × (Nat → Int64) × (Nat → Nat) × (Nat → Nat)
def qLw (R : Nat → Option Nat) (c h : Nat) : Nat := (lowI (btL (gbS R c h))).toNatClampNeg
def tl (σ : Sg) (p k m : Nat) : Int64 := tlS σ p (sH σ p) k (qLw (sH σ p) (sN σ) k) m
def xS (σ : Sg) (p k : Nat) : Int := wyZ (sq σ 10) (tl σ p k 1).toInt
def yS (σ : Sg) (p k : Nat) : Int := wyZ (sq σ 11) (tl σ p k 2).toInt
def stR (σ : Sg) (p k : Nat) : Nat := (vaS σ).2.2 (64 * p + k) 2
def skB (σ : Sg) (p k : Nat) : Bool := decide (0 < stR σ p k) && seZ (sq σ 12) (sq σ 13) (sP σ - 1 - p) (xS σ p k) (yS σ p k)
def skS (σ : Sg) (p k : Nat) (q : K6) : K6 := if skB σ p k = true then (q.1 + 1, up q.2.1 q.1 (100 * p + k), up q.2.2.1 q.1 (rZ (xS σ p k) (yS σ p k)), up q.2.2.2.1 q.1 (rdZ (xS σ p k) (yS σ p k) (tl σ p k 3) (tl σ p k 4)), up q.2.2.2.2.1 q.1 (ptZ (xS σ p k) (yS σ p k)), up q.2.2.2.2.2 q.1 (stR σ p k)) else q
def sk1 (σ : Sg) (p : Nat) (q : K6) (t : Nat) : K6 := it t q (skS σ p)
def sk2 (σ : Sg) : Nat → K6 → K6
  | 0, q => q
  | m + 1, q => sk2 σ m (sk1 σ m q (sC σ m))
def skA (σ : Sg) : K6 := sk2 σ (sP σ) (0, (fun _ => 0), (fun _ => 0), (fun _ => 0), (fun _ => 0), fun _ => 0)
/-- what holds of those seen -/
def skI (σ : Sg) (N : Nat) (q : K6) : Prop := q.1 ≤ N ∧ ∀ j, j < q.1 → (∃ p k, p < 12 ∧ k < 64 ∧ q.2.1 j = 100 * p + k ∧ q.2.2.2.2.2 j = stR σ p k) ∧ 0 < q.2.2.2.2.2 j ∧ q.2.2.2.2.2 j ≤ 6400 ∧ q.2.2.2.2.1 j < 8 ∧ q.2.2.1 j ≤ 2896
def rL (q : K6) (w : Nat × L5) : Prop := w.1 = q.1 ∧ ∀ j, j < q.1 → w.2.1 j = lZ (q.2.1 j : Nat) ∧ w.2.2.1 j = lZ (q.2.2.1 j : Nat) ∧ w.2.2.2.1 j = q.2.2.2.1 j ∧ w.2.2.2.2.1 j = lZ (q.2.2.2.2.1 j : Nat) ∧ w.2.2.2.2.2 j = lZ (q.2.2.2.2.2 j : Nat)
section
variable {σ : Sg} {I I2 K : hf_I} {J J2 : hf_J} {g : hf_G} {c f l p n P t q a b d m s h k N : Nat} {i j x y : Int32} {R : Nat → Option Nat} {A : K6} {w : Nat × L5} {W : Nat × V5} {T : Nat → Nat → Nat → Int64} {H B : Nat → Int32} {Q : Q4}
theorem qLw_S (hc2 : c ≤ 64) (hq : hLow R c h q) : qLw R c h = q := by
  have := hq.1
  unfold qLw
  rw [low_S hc2 hq, nI_clamp (by omega)]
theorem pic_low (hσ : SOK σ) (hp : p < sP σ) (hk : k < sC σ p) : ∃ q, hLow (sH σ p) (sN σ) k q ∧ qLw (sH σ p) (sN σ) k = q := by
  obtain ⟨q, hq⟩ := hLow_ex (hσ.2.2 p hp).1 hk
  exact ⟨q, hq, qLw_S (sok_N hσ).2 hq⟩
theorem tl_12 (hm : m = 1 ∨ m = 2) : ∃ a : Int, 0 ≤ a ∧ a < 4096 ∧ tl σ p k m = lZ a := by
  have : ∃ v, tl σ p k m = plc v := by
    rcases hm with rfl | rfl
    · exact ⟨_, rfl⟩
    · exact ⟨_, rfl⟩
  obtain ⟨v, hv⟩ := this
  rw [hv, plc_z]
  exact ⟨v.toInt % 4096, by omega, by omega, rfl⟩
theorem sok_sky (hσ : SOK σ) : sq σ 10 ≤ 4095 ∧ sq σ 11 ≤ 4095 ∧ (1 ≤ sq σ 12 ∧ sq σ 12 ≤ 4000) ∧ sq σ 13 ≤ 255 ∧ sq σ 14 ≤ 4000 := ⟨(sok_r hσ (i := 10) (by decide)).2, (sok_r hσ (i := 11) (by decide)).2, sok_r hσ (i := 12) (by decide), (sok_r hσ (i := 13) (by decide)).2, (sok_r hσ (i := 14) (by decide)).2⟩
theorem xS_rng : (-2048 ≤ xS σ p k ∧ xS σ p k ≤ 2048) ∧ (-2048 ≤ yS σ p k ∧ yS σ p k ≤ 2048) := by
  have h1 := wyZ_rng (a := (sq σ 10 : Int)) (b := (tl σ p k 1).toInt)
  have h2 := wyZ_rng (a := (sq σ 11 : Int)) (b := (tl σ p k 2).toInt)
  unfold xS yS
  omega
theorem xS_c (hσ : SOK σ) : wayL (lZ (sq σ 10 : Nat)) (tl σ p k 1) = lZ (xS σ p k) ∧ wayL (lZ (sq σ 11 : Nat)) (tl σ p k 2) = lZ (yS σ p k) := by
  obtain ⟨s1, s2, -⟩ := sok_sky hσ
  obtain ⟨a, a1, a2, a3⟩ := tl_12 (σ := σ) (p := p) (k := k) (m := 1) (Or.inl rfl)
  obtain ⟨b, b1, b2, b3⟩ := tl_12 (σ := σ) (p := p) (k := k) (m := 2) (Or.inr rfl)
  unfold xS yS
  rw [a3, b3, lZ_toInt (lRs (by omega) (by omega)), lZ_toInt (lRs (by omega) (by omega))]
  exact ⟨wayL_z ⟨by omega, by omega⟩ ⟨by omega, by omega⟩, wayL_z ⟨by omega, by omega⟩ ⟨by omega, by omega⟩⟩
theorem stR_le (hσ : SOK σ) (hp : p < 12) (hk : k < 64) : stR σ p k ≤ 6400 := (tot_le ((gl_vS hσ).2.2 (64 * p + k) (by omega))).2.2.1
theorem skS_I (hσ : SOK σ) (hp : p < 12) (hk : k < 64) (h : skI σ N A) : skI σ (N + 1) (skS σ p k A) := by
  obtain ⟨h1, h2⟩ := h
  unfold skS
  by_cases c1 : skB σ p k = true
  · rw [if_pos c1]
    have hst : 0 < stR σ p k := by
      unfold skB at c1
      rw [Bool.and_eq_true, decide_eq_true_eq] at c1
      exact c1.1
    refine ⟨by dsimp only; omega, fun j hj => ?_⟩
    dsimp only at hj ⊢
    by_cases e : j = A.1
    · rw [e, up_s, up_s, up_s, up_s]
      exact ⟨⟨p, k, hp, hk, rfl, rfl⟩, hst, stR_le hσ hp hk, ptZ_lt, (rZ_ok xS_rng.1 xS_rng.2).2.2⟩
    · rw [up_n e, up_n e, up_n e, up_n e]
      exact h2 j (by omega)
  · rw [if_neg c1]
    exact ⟨by omega, h2⟩
theorem sk1_I (hσ : SOK σ) (hp : p < 12) (h : skI σ N A) : ∀ t, t ≤ 64 → skI σ (N + t) (sk1 σ p A t)
  | 0, _ => h
  | t + 1, ht => skS_I hσ hp (by omega) (sk1_I hσ hp h t (by omega))
theorem skI_mono {M : Nat} (h : skI σ N A) (hm : N ≤ M) : skI σ M A := ⟨by have := h.1; omega, h.2⟩
theorem sk2_I (hσ : SOK σ) : ∀ (m N : Nat) (A : K6), m ≤ sP σ → skI σ N A → skI σ (N + 64 * m) (sk2 σ m A)
  | 0, N, A, _, h => h
  | m + 1, N, A, hm, h => by
    have hP := sok_P hσ
    have hc := sok_C hσ (show m < sP σ by omega)
    exact skI_mono (sk2_I hσ m _ _ (by omega) (sk1_I hσ (by omega) h (sC σ m) hc)) (by omega)
theorem skA_I (hσ : SOK σ) : skI σ 768 (skA σ) := by
  have hP := sok_P hσ
  exact skI_mono (sk2_I hσ (sP σ) 0 _ (Nat.le_refl _) ⟨Nat.le_refl _, fun j hj => absurd hj (Nat.not_lt_zero _)⟩) (by omega)
theorem gas_st (hσ : SOK σ) (hC : RC σ I J) (hp : p < sP σ) (hk : k < sC σ p) : J (34 + 17 * p + 16) (4 * k + 2) = lZ (stR σ p k : Nat) := by
  have h := RC_vQ hσ hC p k 2 hp hk (by decide)
  rw [if_neg (by omega)] at h
  exact h
theorem laS_S (hσ : SOK σ) (hC : RC σ I J) (hT : ∀ m, T p k m = tl σ p k (m + 1)) (hp : p < sP σ) (hk : k < sC σ p) (h : rL A w) : rL (skS σ p k A) (laS J (I 257 10) T p (sP σ - 1 - p) k w) := by
  have hP := sok_P hσ
  have hk64 := sok_C hσ hp
  obtain ⟨q0, q1, q2, q3, q4, q5, q6, q7, q8, q9, q10, q11, q12, q13, q14, q15, q16⟩ := hC.1
  obtain ⟨s1, s2, s3, s4, s5⟩ := sok_sky hσ
  obtain ⟨x1, y1⟩ := xS_c (σ := σ) (p := p) (k := k) hσ
  obtain ⟨rx, ry⟩ := xS_rng (σ := σ) (p := p) (k := k)
  have hst := stR_le hσ (show p < 12 by omega) (show k < 64 by omega)
  have hpt := ptZ_lt (x := xS σ p k) (y := yS σ p k)
  have e1 : wayL (J 257 7) (T p k 0) = lZ (xS σ p k) := by rw [q10, hT 0]; exact x1
  have e2 : wayL (J 257 8) (T p k 1) = lZ (yS σ p k) := by rw [q11, hT 1]; exact y1
  unfold laS skS
  rw [e1, e2, gas_st hσ hC hp hk, q12, q13, seeL_z rx ry s3.1 s3.2 s4 (by omega)]
  have hc : (0 < lZ (stR σ p k : Nat) ∧ seZ (sq σ 12) (sq σ 13) (sP σ - 1 - p) (xS σ p k) (yS σ p k) = true) = (skB σ p k = true) := by
    unfold skB
    rw [Bool.and_eq_true, decide_eq_true_eq]
    congr 1
    rw [show (0 : Int64) = lZ 0 from rfl, lZ_lt (lRs (by omega) (by omega)) (lRs (by omega) (by omega))]
    apply propext; omega
  by_cases c1 : skB σ p k = true
  · rw [if_pos c1, if_pos (hc.mpr c1)]
    obtain ⟨h1, h2⟩ := h
    refine ⟨by dsimp only; omega, fun j hj => ?_⟩
    dsimp only at hj ⊢
    unfold pt5
    dsimp only
    rw [h1]
    by_cases e : j = A.1
    · rw [e, up_s, up_s, up_s, up_s, up_s, up_s, up_s, up_s, up_s, up_s, (rZ_ok rx ry).1, redL_z rx ry, ptL_z rx ry, nI_ll (by omega), nI_ll (by omega), hT 2, hT 3]
      exact ⟨rfl, rfl, rfl, rfl, rfl⟩
    · rw [up_n e, up_n e, up_n e, up_n e, up_n e, up_n e, up_n e, up_n e, up_n e, up_n e]
      exact h2 j (by omega)
  · rw [if_neg c1, if_neg (fun u => c1 (hc.mp u))]
    exact h
theorem la1_S (hσ : SOK σ) (hC : RC σ I J) (hT : ∀ k m, k < sC σ p → T p k m = tl σ p k (m + 1)) (hp : p < sP σ) (h : rL A w) : ∀ t, t ≤ sC σ p → rL (sk1 σ p A t) (la1 J (I 257 10) T p (sP σ - 1 - p) w t)
  | 0, _ => h
  | t + 1, ht => laS_S hσ hC (fun m => hT t m (by omega)) hp (by omega) (la1_S hσ hC hT hp h t (by omega))
theorem la2_S (hσ : SOK σ) (hC : RC σ I J) (hT : ∀ p k m, p < sP σ → k < sC σ p → T p k m = tl σ p k (m + 1)) : ∀ (m : Nat) (A : K6) (w : Nat × L5), m ≤ sP σ → rL A w → rL (sk2 σ m A) (la2 J (I 257 10) T (sP σ) (sC σ) m w)
  | 0, A, w, _, h => h
  | m + 1, A, w, hm, h => la2_S hσ hC hT m _ _ (by omega) (la1_S hσ hC (fun k m2 hk => hT m k m2 (by omega) hk) (by omega) h (sC σ m) (Nat.le_refl _))
/-- what a picture's scene tells -/
theorem T4_S (hσ : SOK σ) (hL : Lay g) (hC : RC σ I J) (hp : p < sP σ) (hk : k < sC σ p) : T4 g I J (fun p k m => tl σ p k (m + 1)) p k := by
  have hN := sok_N hσ
  have hP := sok_P hσ
  have hk64 := sok_C hσ hp
  have hs : sl σ p := Or.inr hp
  obtain ⟨q, hq, hq2⟩ := pic_low hσ hp hk
  have hlt := hq.1
  have hb : J (34 + 17 * p + 1 + 11) k = gbS (sH σ p) (sN σ) k := bt_ext fun x hx => by
    rw [gbS_bt hN.2 hx]
    exact (hC.2.2 p hp).2.2.2.1 k x hk hx
  obtain ⟨g1, g2⟩ := hC.2.1 p hs
  rw [gA_p (show p < 12 by omega)] at g1 g2
  have hlo := low_S hN.2 hq
  rw [← hb] at hlo
  have hS := pc_sc1 (al_pc (lay_al hL) p (by omega))
  have hv : ∀ m, valH (sN σ) (J (34 + 17 * p + 1 + 3)) (J (34 + 17 * p + 1 + 5)) (J (34 + 17 * p + 1 + 7)) (J (34 + 17 * p + 1 + 9)) (J (34 + 17 * p + 1 + 11) k) q m = tl σ p k m := fun m => by
    unfold tl tlS
    rw [hb, hq2]
    exact valH_cong (fun x hx => g2 x hx) hlt
  refine ⟨?_, ?_, ?_, ?_⟩
  · have hr := c_middleX (I := I) (J := J) hS g1 hN.2 (show k < 64 by omega) hlo (by omega)
    rw [hr]
    exact congrArg (fun v => some (Sum.inl (some (Value.long v)), g, I, J)) (hv 1)
  · have hr := c_middleY (I := I) (J := J) hS g1 hN.2 (show k < 64 by omega) hlo (by omega)
    rw [hr]
    exact congrArg (fun v => some (Sum.inl (some (Value.long v)), g, I, J)) (hv 2)
  · have hr := c_speedX (I := I) (J := J) hS g1 hN.2 (show k < 64 by omega)
    rw [hr]
    exact congrArg (fun v => some (Sum.inl (some (Value.long v)), g, I, J)) (hv 3)
  · have hr := c_speedY (I := I) (J := J) hS g1 hN.2 (show k < 64 by omega)
    rw [hr]
    exact congrArg (fun v => some (Sum.inl (some (Value.long v)), g, I, J)) (hv 4)
theorem RC_s5 (hσ : SOK σ) (hC : RC σ I J) {v : Int32} {W5 : L5} : RC σ (hf_u I 257 6 v) (s5 J W5) ∧ kC I (hf_u I 257 6 v) J (s5 J W5) := by
  refine ⟨RC_fr (sok_P hσ) hC ⟨fun a j ha => ?_, fun a ha => s5_n (by unfold scJ at ha; omega)⟩, fun a ha => ⟨ku_ne (by omega), s5_n (by omega)⟩⟩
  by_cases e : a = 257
  · subst e; exact ku_ix (by unfold scI at ha; omega)
  · rw [ku_ne e]
theorem cls_look (hσ : SOK σ) (hL : Lay g) (hC : RC σ I J) : ∃ I2 J2, hf_rn 91 0 [some (.ref 257), some (.ref 13), none, none, none, none] [] g I J = some (.inl none, g, I2, J2) ∧ RC σ I2 J2 ∧ kC I I2 J J2 ∧ I2 257 6 = nI (skA σ).1 ∧ ∀ j, j < (skA σ).1 → J2 259 j = lZ ((skA σ).2.1 j : Nat) ∧ J2 261 j = lZ ((skA σ).2.2.1 j : Nat) ∧ J2 263 j = (skA σ).2.2.2.1 j ∧ J2 265 j = lZ ((skA σ).2.2.2.2.1 j : Nat) ∧ J2 267 j = lZ ((skA σ).2.2.2.2.2 j : Nat) := by
  have hr := c_look (T := fun p k m => tl σ p k (m + 1)) (lay_sk hL) (RC_alb hσ hL hC) (fun p k n W hp hk => T4_S hσ hL (RC_s5 hσ hC).1 hp hk)
  have h := la2_S (T := fun p k m => tl σ p k (m + 1)) hσ hC (fun p k m _ _ => rfl) (sP σ) (0, (fun _ => 0), (fun _ => 0), (fun _ => 0), (fun _ => 0), fun _ => 0) (0, (J 259, J 261, J 263, J 265, J 267)) (Nat.le_refl _) ⟨rfl, fun j hj => absurd hj (Nat.not_lt_zero _)⟩
  generalize la2 J (I 257 10) (fun p k m => tl σ p k (m + 1)) (sP σ) (sC σ) (sP σ) (0, (J 259, J 261, J 263, J 265, J 267)) = z at hr h
  obtain ⟨h1, h2⟩ := h
  obtain ⟨c1, c2⟩ := RC_s5 (v := nI z.1) (W5 := z.2) hσ hC
  exact ⟨_, _, hr, c1, c2, by rw [ku_same, h1]; rfl, h2⟩
/-- nearness by numbers -/
def nrZ (F Pt : Nat → Nat) (fb k m : Nat) : Bool := decide (Pt m = Pt k) && decide ((if F m < F k then F k - F m else F m - F k) < fb)
theorem isSp_cong {t t2 : Nat → Int} {nr nr2 : Nat → Nat → Bool} {H2 : Nat → Bool} (ht : ∀ k, k < n → t k = t2 k) (hn : ∀ k m, k < n → m < n → nr k m = nr2 k m) (h : isSp n t nr H2) : isSp n t2 nr2 H2 := by
  intro k hk
  rw [h k hk]
  constructor
  · intro q m hm hb hh
    rw [← hn k m hk hm]
    refine q m hm ?_ hh
    unfold bef at hb ⊢
    rw [ht k hk, ht m hm]
    exact hb
  · intro q m hm hb hh
    rw [hn k m hk hm]
    refine q m hm ?_ hh
    unfold bef at hb ⊢
    rw [← ht k hk, ← ht m hm]
    exact hb
theorem nrC_z {P D : Nat → Int64} {F Pt : Nat → Nat} {fb : Nat} (hP : ∀ j, j < n → P j = lZ (Pt j : Nat) ∧ Pt j < 8) (hD : ∀ j, j < n → D j = lZ (F j : Nat) ∧ F j ≤ 2896) (hf : fb ≤ 4000) (hk : k < n) (hm : m < n) : nrC P D (lZ (fb : Nat)) k m = nrZ F Pt fb k m := by
  obtain ⟨p1, p2⟩ := hP k hk
  obtain ⟨p3, p4⟩ := hP m hm
  obtain ⟨d1, d2⟩ := hD k hk
  obtain ⟨d3, d4⟩ := hD m hm
  unfold nrC nrZ
  rw [p1, p3, d1, d3]
  congr 1
  · refine decide_eq_decide.mpr ?_
    rw [lZ_eq (lRs (by omega) (by omega)) (lRs (by omega) (by omega))]
    omega
  · refine decide_eq_decide.mpr ?_
    have e : aL (lZ (F m : Nat) - lZ (F k : Nat)) = lZ ((if F m < F k then F k - F m else F m - F k : Nat) : Int) := by
      rw [lZ_sub]
      unfold aL
      have e2 : (0 ≤ lZ ((F m : Int) - F k)) = (0 ≤ (F m : Int) - F k) := lZ_le (a := 0) (lRs (by omega) (by omega)) (lRs (by omega) (by omega))
      by_cases c1 : F m < F k
      · rw [if_neg (fun u => by have := e2.mp u; omega), if_pos c1, lZ_neg]
        congr 1; omega
      · rw [if_pos (e2.mpr (by omega)), if_neg c1]
        congr 1; omega
    rw [e]
    generalize hv : (if F m < F k then F k - F m else F m - F k) = v
    have : v ≤ 2896 := by rw [← hv]; split <;> omega
    rw [lZ_lt (lRs (by omega) (by omega)) (lRs (by omega) (by omega))]
    omega
/-- who has a spectrum -/
def spA (σ : Sg) (k : Nat) : Bool := decide (gsF (skA σ).1 (fun j => lZ ((skA σ).2.2.2.2.2 j : Nat)) (fun j => lZ ((skA σ).2.2.2.2.1 j : Nat)) (fun j => lZ ((skA σ).2.2.1 j : Nat)) (lZ (sq σ 14 : Nat)) (fun _ => 0) (skA σ).1 k = 1)
def spZ (σ : Sg) (H2 : Nat → Bool) : Prop := isSp (skA σ).1 (fun k => ((skA σ).2.2.2.2.2 k : Int)) (nrZ (skA σ).2.2.1 (skA σ).2.2.2.2.1 (sq σ 14)) H2
theorem spc_z (hσ : SOK σ) {T P D S : Nat → Int64} (hT : ∀ j, j < (skA σ).1 → T j = lZ ((skA σ).2.2.2.2.2 j : Nat)) (hP : ∀ j, j < (skA σ).1 → P j = lZ ((skA σ).2.2.2.2.1 j : Nat)) (hD : ∀ j, j < (skA σ).1 → D j = lZ ((skA σ).2.2.1 j : Nat)) : (∀ k, k < (skA σ).1 → gsF (skA σ).1 T P D (lZ (sq σ 14 : Nat)) S (skA σ).1 k = 0 ∨ gsF (skA σ).1 T P D (lZ (sq σ 14 : Nat)) S (skA σ).1 k = 1) ∧ spZ σ (fun k => decide (gsF (skA σ).1 T P D (lZ (sq σ 14 : Nat)) S (skA σ).1 k = 1)) := by
  obtain ⟨i1, i2⟩ := skA_I hσ
  obtain ⟨-, -, -, -, s5⟩ := sok_sky hσ
  obtain ⟨g1, g2⟩ := gsF_sp (T := T) (P := P) (D := D) (f := lZ (sq σ 14 : Nat)) (S := S) i1 (fun k hk => by
    obtain ⟨-, h1, h2, -⟩ := i2 k hk
    rw [hT k hk, show (0 : Int64) = lZ 0 from rfl, lZ_lt (lRs (by omega) (by omega)) (lRs (by omega) (by omega))]
    omega)
  refine ⟨g1, isSp_cong (fun k hk => ?_) (fun k m hk hm => ?_) g2⟩
  · obtain ⟨-, h1, h2, -⟩ := i2 k hk
    rw [hT k hk, lZ_toInt (lRs (by omega) (by omega))]
  · exact nrC_z (fun j hj => ⟨hP j hj, (i2 j hj).2.2.2.1⟩) (fun j hj => ⟨hD j hj, (i2 j hj).2.2.2.2⟩) s5 hk hm
theorem spA_z (hσ : SOK σ) {H2 : Nat → Bool} (h : spZ σ H2) (hk : k < (skA σ).1) : H2 k = spA σ k := isSp_one h (spc_z hσ (fun _ _ => rfl) (fun _ _ => rfl) (fun _ _ => rfl)).2 k hk
end
