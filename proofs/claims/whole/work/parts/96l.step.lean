section
variable {σ : Sg} {R : R4} {g : hf_G} {I I2 : hf_I} {J J2 : hf_J} {s k c a b m p G S t : Nat} {i j : Int32}
theorem th_q {r q : Nat} {x : Int32} (h : ¬ quI r q) : thI I x r q = I r q := by
  by_cases e : r = 270
  · subst e; exact th_f (by unfold quI at h; omega)
  · rw [th_r e]
theorem faJ_n (h : p ≠ 240 ∧ p ≠ 242) : faJ J c p = J p := w2_n h.1 h.2
theorem faJ_k (hGJ : J 238 0 = lZ G) (hSJ : J 238 1 = lZ S) (hG : G ≤ 10000) (hS : 10 ≤ S ∧ S ≤ 1000) (h : RWc J c R) (hR : R4ok c R) (hc2 : c ≤ 64) (hk : k < c) : faJ J c 240 k = foS (pvX G S R) c k ∧ faJ J c 242 k = foS (pvY G S R) c k := by
  unfold faJ
  rw [w2_a (by decide), w2_b, hGJ, hSJ]
  exact ⟨fo_c (fun a b h1 h2 => prX_z hG hS h hR (by omega) h2) (if_pos (by omega)), fo_c (fun a b h1 h2 => prY_z hG hS h hR (by omega) h2) (if_pos (by omega))⟩
theorem mfK_k (hGJ : I 270 3 = nI G) (hSJ : I 270 4 = nI S) (hG : G ≤ 10000) (hS : 10 ≤ S ∧ S ≤ 1000) (h : RWm I J2 c R) (hR : R4ok c R) (hk : k < c) : mfX I J c k = foS (pvX G S R) c k ∧ mfY I J c k = foS (pvY G S R) c k := by
  unfold mfX mfY
  exact ⟨fo_m (fun a b h1 h2 => (pxM_z hGJ hSJ hG hS h hR (by omega) h2).1) (if_pos hk), fo_m (fun a b h1 h2 => (pxM_z hGJ hSJ hG hS h hR (by omega) h2).2) (if_pos hk)⟩
theorem agr_forceX (hσ : SOK σ) : agr 2 cdI3 σ (fun g I J => hf_rn 115 0 [some (.ref 0), some (.int i), some (.int 1), some (.int 0)] [] g I J) (fun g I J => hf_rn 177 0 [some (.ref 270), some (.int i), some (.int 1), some (.int 0), none, none, none] [] g I J) := by
  have hN := sok_N hσ
  rcases i_lt (sN σ) (by omega) i with ⟨k, hk, rfl⟩ | hi
  · refine Or.inl ⟨σ, some (.long (foX σ k)), hσ, ⟨_, rfl⟩, fun g I J hL hW hC => ?_, fun g I J hL hM => ?_⟩
    · have hr := c_forceAX (J := J) (lay_hx hL) (lay_pu hL) (RC_c hC) hN.2 hk
      rw [show faJ J (sN σ) 240 k = foX σ k from (faJ_k (RC_pl hC).1 (RC_pl hC).2 (sok_G hσ) (sok_S hσ) (RC_rw hC) (now_ok hσ) hN.2 hk).1] at hr
      exact ⟨_, _, hr, RC_fr (sok_P hσ) hC ⟨fun _ _ _ => rfl, fun r hr => faJ_n (by unfold scJ at hr; omega)⟩, kCC (fun _ _ => rfl) (fun r hr => faJ_n (by omega))⟩
    · have hr := m_forceAX (J := J) (lay_md hL) (RM_c hM) hN.2 hk (nzM_z (hM.1 4 (by decide)) (sok_S hσ) (RM_rw hM) (now_ok hσ))
      rw [show mfX I J (sN σ) k = foX σ k from (mfK_k (hM.1 3 (by decide)) (hM.1 4 (by decide)) (sok_G hσ) (sok_S hσ) (RM_rw hM) (now_ok hσ) hk).1] at hr
      exact ⟨_, _, hr, RM_fr (sok_P hσ) hN.2 hM ⟨fun r q hq => th_q hq, fun r hr => w2_n (by unfold quJ at hr; omega) (by unfold quJ at hr; omega)⟩, th_38, fun r hr => ⟨th_r (by omega), w2_n (by omega) (by omega)⟩⟩
  · exact Or.inr ⟨3, some (.long 0), Or.inr (Or.inr rfl), (by decide : ¬ cdI3 3 = 0), ⟨_, rfl⟩, fun g I J hL hW hC => cEX_0 hC (c_forceX (lay_hx hL) (by rw [RC_c hC]; exact hi)), fun g I J hL hM => mOK_th hσ hM (m_forceX (lay_md hL) (RM_c hM) hN.2 hi)⟩
theorem agr_forceY (hσ : SOK σ) : agr 2 cdI3 σ (fun g I J => hf_rn 115 0 [some (.ref 0), some (.int i), some (.int 0), some (.int 0)] [] g I J) (fun g I J => hf_rn 177 0 [some (.ref 270), some (.int i), some (.int 0), some (.int 0), none, none, none] [] g I J) := by
  have hN := sok_N hσ
  rcases i_lt (sN σ) (by omega) i with ⟨k, hk, rfl⟩ | hi
  · refine Or.inl ⟨σ, some (.long (foY σ k)), hσ, ⟨_, rfl⟩, fun g I J hL hW hC => ?_, fun g I J hL hM => ?_⟩
    · have hr := c_forceAY (J := J) (lay_hx hL) (lay_pu hL) (RC_c hC) hN.2 hk
      rw [show faJ J (sN σ) 242 k = foY σ k from (faJ_k (RC_pl hC).1 (RC_pl hC).2 (sok_G hσ) (sok_S hσ) (RC_rw hC) (now_ok hσ) hN.2 hk).2] at hr
      exact ⟨_, _, hr, RC_fr (sok_P hσ) hC ⟨fun _ _ _ => rfl, fun r hr => faJ_n (by unfold scJ at hr; omega)⟩, kCC (fun _ _ => rfl) (fun r hr => faJ_n (by omega))⟩
    · have hr := m_forceAY (J := J) (lay_md hL) (RM_c hM) hN.2 hk (nzM_z (hM.1 4 (by decide)) (sok_S hσ) (RM_rw hM) (now_ok hσ))
      rw [show mfY I J (sN σ) k = foY σ k from (mfK_k (hM.1 3 (by decide)) (hM.1 4 (by decide)) (sok_G hσ) (sok_S hσ) (RM_rw hM) (now_ok hσ) hk).2] at hr
      exact ⟨_, _, hr, RM_fr (sok_P hσ) hN.2 hM ⟨fun r q hq => th_q hq, fun r hr => w2_n (by unfold quJ at hr; omega) (by unfold quJ at hr; omega)⟩, th_38, fun r hr => ⟨th_r (by omega), w2_n (by omega) (by omega)⟩⟩
  · exact Or.inr ⟨3, some (.long 0), Or.inr (Or.inr rfl), (by decide : ¬ cdI3 3 = 0), ⟨_, rfl⟩, fun g I J hL hW hC => cEX_0 hC (c_forceX (lay_hx hL) (by rw [RC_c hC]; exact hi)), fun g I J hL hM => mOK_th hσ hM (m_forceX (lay_md hL) (RM_c hM) hN.2 hi)⟩
/-- one step -/
def stU (G S c : Nat) (R : R4) (k : Nat) : Int64 := R.2.2.1 k + foS (pvX G S R) c k
def stW (G S c : Nat) (R : R4) (k : Nat) : Int64 := R.2.2.2 k + foS (pvY G S R) c k
def stS (G S c a : Nat) (R : R4) : R4 := ((fun k => ((lZ (R.1 k) + stU G S c R k / (16 * (nI a).toInt64)).toInt % 4096).toNat), (fun k => ((lZ (R.2.1 k) + stW G S c R k / (16 * (nI a).toInt64)).toInt % 4096).toNat), stU G S c R, stW G S c R)
def stN (G S c a : Nat) (R : R4) (t : Nat) : R4 := it t R fun k R => stS G S c (a + k) R
theorem stS_ok : R4ok c (stS G S c a R) := fun k _ => ⟨md_lt, md_lt⟩
theorem stN_ok (hR : R4ok c R) : ∀ t, R4ok c (stN G S c a R t)
  | 0 => hR
  | t + 1 => stS_ok
theorem age_nz (h1 : 1 ≤ a) (h2 : a ≤ 1000) : ¬ 16 * (nI a).toInt64 = 0 := by
  rw [nI_ll (by omega), show (16 : Int64) = lZ 16 from rfl, show (0 : Int64) = lZ 0 from rfl, lZ_mul, lZ_eq (lRs (by omega) (by omega)) (lRs (by decide) (by decide))]
  omega
theorem spJ_n (h : p ≠ 4 ∧ p ≠ 6 ∧ p ≠ 8 ∧ p ≠ 10 ∧ p ≠ 240 ∧ p ≠ 242) : spJ J c i p = J p := by
  unfold spJ mvJ haJ rwm2
  rw [rwm_ne h.2.1, rwm_ne h.1, rwm_ne h.2.2.2.1, rwm_ne h.2.2.1, faJ_n h.2.2.2.2]
theorem st_c (hGJ : J 238 0 = lZ G) (hSJ : J 238 1 = lZ S) (hG : G ≤ 10000) (hS : 10 ≤ S ∧ S ≤ 1000) (h : RWc J c R) (hR : R4ok c R) (hc2 : c ≤ 64) (h1 : 1 ≤ a) (h2 : a ≤ 1000) : RWc (spJ J c (nI a)) c (stS G S c a R) := by
  intro k hk
  obtain ⟨f1, f2⟩ := faJ_k hGJ hSJ hG hS h hR hc2 hk
  obtain ⟨v1, v2, v3, v4⟩ := h k hk
  have hz := age_nz h1 h2
  have e8 : haJ (faJ J c) c 8 k = stU G S c R k := by
    unfold haJ rwm2
    rw [rwm_ne (by decide), rwm_lt hk, f1, faJ_n (by decide), v3]
    rfl
  have e10 : haJ (faJ J c) c 10 k = stW G S c R k := by
    unfold haJ rwm2
    rw [rwm_lt hk, f2, faJ_n (by decide), v4]
    rfl
  have e4 : haJ (faJ J c) c 4 k = lZ (R.1 k) := by
    unfold haJ rwm2
    rw [rwm_ne (by decide), rwm_ne (by decide), faJ_n (by decide), v1]
  have e6 : haJ (faJ J c) c 6 k = lZ (R.2.1 k) := by
    unfold haJ rwm2
    rw [rwm_ne (by decide), rwm_ne (by decide), faJ_n (by decide), v2]
  unfold spJ mvJ rwm2
  refine ⟨?_, ?_, ?_, ?_⟩
  · rw [rwm_ne (by decide), rwm_lt hk, e4, e8, plc_n]
    unfold by0
    rw [if_neg hz]
    rfl
  · rw [rwm_lt hk, e6, e10, plc_n]
    unfold by0
    rw [if_neg hz]
    rfl
  · rw [rwm_ne (by decide), rwm_ne (by decide), e8]
    rfl
  · rw [rwm_ne (by decide), rwm_ne (by decide), e10]
    rfl
theorem st_cN (hGJ : J 238 0 = lZ G) (hSJ : J 238 1 = lZ S) (hG : G ≤ 10000) (hS : 10 ≤ S ∧ S ≤ 1000) (h : RWc J c R) (hR : R4ok c R) (hc2 : c ≤ 64) (h1 : 1 ≤ a) : ∀ t, a + t ≤ 1001 → RWc (stJ J c a t) c (stN G S c a R t) ∧ ∀ p, (p ≠ 4 ∧ p ≠ 6 ∧ p ≠ 8 ∧ p ≠ 10 ∧ p ≠ 240 ∧ p ≠ 242) → stJ J c a t p = J p
  | 0, _ => ⟨h, fun _ _ => rfl⟩
  | t + 1, ht => by
    obtain ⟨i1, i2⟩ := st_cN hGJ hSJ hG hS h hR hc2 h1 t (by omega)
    have e := i2 238 (by decide)
    refine ⟨st_c ((congrFun e 0).trans hGJ) ((congrFun e 1).trans hSJ) hG hS i1 (stN_ok hR t) hc2 (by omega) (by omega), fun p hp => ?_⟩
    exact (spJ_n hp).trans (i2 p hp)
theorem st_m (hGJ : I 270 3 = nI G) (hSJ : I 270 4 = nI S) (ha : I 270 2 = nI a) (hG : G ≤ 10000) (hS : 10 ≤ S ∧ S ≤ 1000) (h : RWm I J c R) (hR : R4ok c R) : RWm (msI I J c) (msJ I J c) c (stS G S c a R) := by
  intro k hk
  obtain ⟨f1, f2⟩ := mfK_k (J := J) hGJ hSJ hG hS h hR hk
  obtain ⟨v1, v2, v3, v4⟩ := h k hk
  obtain ⟨x1, x2⟩ := hR k hk
  unfold msI msJ
  rw [w2_a (by decide), w2_b, w2_a (by decide), w2_b, nwR_at hk, nwR_at hk, nwR_at hk, nwR_at hk, f1, f2, v1, v2, v3, v4, ha, nI_ll (show R.1 k < 2147483648 by omega), nI_ll (show R.2.1 k < 2147483648 by omega), wiI_n, wiI_n]
  exact ⟨rfl, rfl, rfl, rfl⟩
theorem mtF_s : mtF c I J (t + 1) = mtS c (mtF c I J t) := rfl
theorem st_mN (hGJ : I 270 3 = nI G) (hSJ : I 270 4 = nI S) (ha : I 270 2 = nI a) (hG : G ≤ 10000) (hS : 10 ≤ S ∧ S ≤ 1000) (h : RWm I J c R) (hR : R4ok c R) : ∀ t, a + t ≤ 1001 → RWm (mtF c I J t).1 (mtF c I J t).2 c (stN G S c a R t) ∧ (mtF c I J t).1 270 2 = nI (a + t) ∧ (∀ q, q ≠ 2 → (mtF c I J t).1 270 q = thI I 0 270 q) ∧ (∀ p, p ≠ 270 ∧ p ≠ 271 ∧ p ≠ 272 → (mtF c I J t).1 p = I p) ∧ (∀ p, p ≠ 273 ∧ p ≠ 274 ∧ p ≠ 277 ∧ p ≠ 278 → (mtF c I J t).2 p = J p) ∧ ∀ j, j < 768 → (mtF c I J t).1 271 j = I 271 j ∧ (mtF c I J t).1 272 j = I 272 j ∧ (mtF c I J t).2 273 j = J 273 j ∧ (mtF c I J t).2 274 j = J 274 j
  | 0, _ => ⟨RWm_th h, (th_f (I := I) (x := 0) (show 2 ≠ 38 by decide)).trans ha, fun _ _ => rfl, fun p hp => th_r (I := I) (x := 0) hp.1, fun _ _ => rfl, fun _ _ => ⟨rfl, rfl, rfl, rfl⟩⟩
  | t + 1, ht => by
    obtain ⟨i1, i2, i3, i4, i5, i6⟩ := st_mN hGJ hSJ ha hG hS h hR t (by omega)
    rw [mtF_s]
    generalize mtF c I J t = K at i1 i2 i3 i4 i5 i6
    have g3 : K.1 270 3 = nI G := (i3 3 (by decide)).trans ((th_f (by decide)).trans hGJ)
    have g4 : K.1 270 4 = nI S := (i3 4 (by decide)).trans ((th_f (by decide)).trans hSJ)
    have r := st_m g3 g4 i2 hG hS i1 (stN_ok hR t)
    unfold mtS
    dsimp only
    refine ⟨fun k hk => ?_, ?_, fun q hq => ?_, fun p hp => ?_, fun p hp => ?_, fun j hj => ?_⟩
    · rw [ku_ne (by decide), ku_ne (by decide)]
      exact r k hk
    · rw [ku_same, i2, show (1 : Int32) = nI 1 from rfl, nI_add]
      rfl
    · rw [ku_ix hq]
      unfold msI
      rw [w2_n (by decide) (by decide), i3 q hq]
    · rw [ku_ne hp.1]
      unfold msI
      rw [w2_n hp.2.1 hp.2.2, i4 p hp]
    · unfold msJ msK
      rw [w2_n hp.1 hp.2.1, w2_n hp.2.2.1 hp.2.2.2, i5 p hp]
    · obtain ⟨j1, j2, j3, j4⟩ := i6 j hj
      rw [ku_ne (by decide), ku_ne (by decide)]
      unfold msI msJ
      rw [w2_a (by decide), w2_b, w2_a (by decide), w2_b, nwR_b hj, nwR_b hj, nwR_b hj, nwR_b hj, j1, j2, j3, j4]
      exact ⟨rfl, rfl, rfl, rfl⟩
theorem sok_a (hσ : SOK σ) : 1 ≤ sq σ 2 ∧ sq σ 2 ≤ 1000 := sok_r hσ (i := 2) (by decide)
theorem agr_step (hσ : SOK σ) : agr 1 cdAS σ (fun g I J => hf_rn 116 0 [some (.ref 0), some (.int i), none] [] g I J) (fun g I J => hf_rn 179 0 [some (.ref 270), some (.int i), none] [] g I J) := by
  have hN := sok_N hσ
  have hA := sok_a hσ
  have hb : inI i.toInt64 1 20 = rgB 1 20 i := rgB_in (by decide) (by decide)
  by_cases h1 : rgB 1 20 i = true
  · obtain ⟨m, m1, m2, rfl⟩ := rgB_t (by decide) (by decide) h1
    by_cases h2 : sq σ 2 + m ≤ 1000
    · refine Or.inl ⟨sgR σ (up (sq σ) 2 (sq σ 2 + m)) (stN (sq σ 3) (sq σ 4) (sN σ) (sq σ 2) (nowR σ) m), some (.int (nI (sq σ 2 + m))), sok_n hσ (rng_up hσ.1 (by decide) (by decide) ⟨show 1 ≤ sq σ 2 + m by omega, h2⟩) rfl rfl (stN_ok (now_ok hσ) m), ⟨_, rfl⟩, fun g I J hL hW hC => ?_, fun g I J hL hM => ?_⟩
      · have hr := c_stepF (J := J) (lay_hx hL) (lay_n hL) (lay_pu hL) (RC_c hC) hN.2 hC.1.2.2.1 ⟨m1, m2⟩ h2
        obtain ⟨s1, s2⟩ := st_cN (RC_pl hC).1 (RC_pl hC).2 (sok_G hσ) (sok_S hσ) (RC_rw hC) (now_ok hσ) hN.2 hA.1 m (by omega)
        refine ⟨_, _, hr, RC_n (sok_P hσ) hC rfl rfl rfl rfl rfl ?_ (RC_sg s1 ?_) (fun r h3 h4 => ku_ne (by omega)) (fun r h3 h4 => s2 r (by omega)), kCC (fun r h3 => ku_ne (by omega)) (fun r h3 => s2 r (by omega))⟩
        · obtain ⟨q0, q1, q2, q3, q4, q5, q6, q7, q8, q9, q10, q11, q12, q13, q14, q15, q16⟩ := hC.1
          unfold RCq
          rw [s2 238 (by decide), s2 0 (by decide), s2 13 (by decide), s2 257 (by decide)]
          exact ⟨q0, q1, rfl, q3, q4, q5, q6, q7, q8, q9, q10, q11, q12, q13, q14, q15, q16⟩
        · exact (RC_g hC).1
      · obtain ⟨s1, s2, s3, s4, s5, s6⟩ := st_mN (J := J) (hM.1 3 (by decide)) (hM.1 4 (by decide)) (hM.1 2 (by decide)) (sok_G hσ) (sok_S hσ) (RM_rw hM) (now_ok hσ) m (by omega)
        have hr := m_stepF (J := J) (lay_md hL) (RM_c hM) hN.2 (by omega) (hM.1 2 (by decide)) ⟨m1, m2⟩ h2 (hb.trans h1) (fun t ht => by
          obtain ⟨t1, t2, t3, -, -, -⟩ := st_mN (J := J) (hM.1 3 (by decide)) (hM.1 4 (by decide)) (hM.1 2 (by decide)) (sok_G hσ) (sok_S hσ) (RM_rw hM) (now_ok hσ) t (by omega)
          exact ⟨nzM_z ((t3 4 (by decide)).trans ((th_f (by decide)).trans (hM.1 4 (by decide)))) (sok_S hσ) t1 (stN_ok (now_ok hσ) t), by rw [t2]; exact age_nz (by omega) (by omega)⟩)
        rw [s2] at hr
        refine ⟨_, _, hr, RM_R hσ hM rfl rfl (fun q hq => ?_) s1 (fun j hj => ?_) (fun p hp => ?_), ?_, fun r hr => ⟨s4 r (by omega), s5 r (by omega)⟩⟩
        · by_cases e : q = 2
          · subst e; rw [s2, up_s]
          · rw [s3 q e, up_n e]; exact hq_38 hM.1 q hq
        · obtain ⟨t1, t2, t3, t4⟩ := s6 j hj
          exact ⟨t1, t2, t3, t4, congrFun (s4 275 (by decide)) j⟩
        · rw [s4 276 (by decide)]
        · rw [s3 38 (by decide), th_38]
    · have c1 : ∀ {I : hf_I} {J : hf_J}, RM σ I J → (1000 : Int32) < I 270 2 + nI m := fun hM => by
        rw [hM.1 2 (by decide), nI_add, show (1000 : Int32) = nI 1000 from rfl, z_il (by omega) (by omega)]
        omega
      exact Or.inr ⟨2, some (.int 0), Or.inr (Or.inl rfl), (by decide : ¬ cdAS 2 = 0), ⟨_, rfl⟩, fun g I J hL hW hC => cEX_0 hC (c_stepX2 (lay_hx hL) (lay_n hL) hC.1.2.2.1 ⟨m1, m2⟩ (by omega) hA.2), fun g I J hL hM => mOK_th hσ hM (m_stepX2 (lay_md hL) (hb.trans h1) (c1 hM))⟩
  · exact Or.inr ⟨1, some (.int 0), Or.inl rfl, (by decide : ¬ cdAS 1 = 0), ⟨_, rfl⟩, fun g I J hL hW hC => cEX_0 hC (c_stepX1 (lay_hx hL) (lay_n hL) (rgB_f h1)), fun g I J hL hM => mOK_th hσ hM (m_stepX1 (lay_md hL) (hb.trans (Bool.eq_false_iff.mpr h1)))⟩
end
