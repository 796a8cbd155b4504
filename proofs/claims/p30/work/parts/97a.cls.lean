/-! EACH CALL OF THE CLASS: what it answers, what the state is then -/
section
variable {σ : Sg} {f : Nat → Nat} {g : hf_G} {I I2 : hf_I} {J J2 : hf_J} {s k p a b c d m n v w t q h l : Nat} {i j x y kx ky ki kj : Int32} {z : Int} {R : Nat → Option Nat}
theorem i_rg {lo hi : Nat} (h : lo ≤ a ∧ a ≤ hi) (hh : hi < 2147483648) : nI lo ≤ nI a ∧ nI a ≤ nI hi := by
  rw [z_ii (by omega) (by omega), z_ii (by omega) hh]
  exact h
theorem k_pull (hσ : SOK σ) (hL : Lay g) (hC : RC σ I J) (h1 : 0 ≤ a ∧ a ≤ 10000) (h2 : 10 ≤ b ∧ b ≤ 1000) : SOK (sgq σ (up (up (sq σ) 3 a) 4 b)) ∧ cOK (sgq σ (up (up (sq σ) 3 a) 4 b)) g I J none (hf_rn 112 0 [some (.ref 0), some (.int (nI a)), some (.int (nI b))] [] g I J) := by
  have hP := sok_P hσ
  have hp := i_rg h1 (by decide)
  have hp2 := i_rg h2 (by decide)
  obtain ⟨a1, a2⟩ := h1
  obtain ⟨b1, b2⟩ := h2
  refine ⟨sok_q hσ (rng_up (rng_up hσ.1 (by decide) (by decide) ⟨a1, a2⟩) (by decide) (by decide) ⟨b1, b2⟩) rfl rfl, ?_⟩
  have hr2 : hf_rn 112 0 [some (.ref 0), some (.int (nI a)), some (.int (nI b))] [] g I J = some (.inl none, g, I, hf_u (hf_u J 238 0 (nI a).toInt64) 238 1 (nI b).toInt64) := ((c_pull (lay_hx hL) (lay_pu hL) (lay_n hL))).trans (if_pos ⟨hp, hp2⟩)
  obtain ⟨q0, q1, q2, q3, q4, q5, q6, q7, q8, q9, q10, q11, q12, q13, q14, q15, q16⟩ := hC.1
  refine ⟨_, _, hr2, RC_q hP hC rfl rfl rfl rfl rfl ⟨q0, q1, q2, nI_ll (by omega), nI_ll (by omega), q5, q6, q7, q8, q9, q10, q11, q12, q13, q14, q15, q16⟩ (fun r h1 h2 h3 => ?_) (fun r h1 h2 h3 => ?_), fun r hr => ⟨?_, ?_⟩⟩
  all_goals (first | rfl | exact ku_ne (by omega) | exact (ku_ne (by omega)).trans (ku_ne (by omega)))
theorem k_link (hσ : SOK σ) (hL : Lay g) (hC : RC σ I J) (h1 : 1 ≤ a ∧ a ≤ 2000) (h2 : 1 ≤ b ∧ b ≤ 64) : SOK (sgq σ (up (up (sq σ) 5 a) 6 b)) ∧ cOK (sgq σ (up (up (sq σ) 5 a) 6 b)) g I J none (hf_rn 116 0 [some (.ref 0), some (.int (nI a)), some (.int (nI b))] [] g I J) := by
  have hP := sok_P hσ
  have hp := i_rg h1 (by decide)
  have hp2 := i_rg h2 (by decide)
  obtain ⟨a1, a2⟩ := h1
  obtain ⟨b1, b2⟩ := h2
  refine ⟨sok_q hσ (rng_up (rng_up hσ.1 (by decide) (by decide) ⟨a1, a2⟩) (by decide) (by decide) ⟨b1, b2⟩) rfl rfl, ?_⟩
  have hr2 : hf_rn 116 0 [some (.ref 0), some (.int (nI a)), some (.int (nI b))] [] g I J = some (.inl none, g, hf_u I 0 8 (nI b), hf_u J 0 7 (nI a).toInt64) := ((c_link (lay_hx hL) (lay_n hL))).trans (if_pos ⟨hp, hp2⟩)
  obtain ⟨q0, q1, q2, q3, q4, q5, q6, q7, q8, q9, q10, q11, q12, q13, q14, q15, q16⟩ := hC.1
  refine ⟨_, _, hr2, RC_q hP hC rfl rfl rfl rfl rfl ⟨q0, q1, q2, q3, q4, nI_ll (by omega), rfl, q7, q8, q9, q10, q11, q12, q13, q14, q15, q16⟩ (fun r h1 h2 h3 => ?_) (fun r h1 h2 h3 => ?_), fun r hr => ⟨?_, ?_⟩⟩
  all_goals (first | rfl | exact ku_ne (by omega) | exact (ku_ne (by omega)).trans (ku_ne (by omega)))
theorem k_survey (hσ : SOK σ) (hL : Lay g) (hC : RC σ I J) (h1 : 0 ≤ a ∧ a ≤ 255) (h2 : 0 ≤ b ∧ b ≤ 4000) : SOK (sgq σ (up (up (sq σ) 13 a) 14 b)) ∧ cOK (sgq σ (up (up (sq σ) 13 a) 14 b)) g I J none (hf_rn 130 0 [some (.ref 0), some (.int (nI a)), some (.int (nI b))] [] g I J) := by
  have hP := sok_P hσ
  have hp := i_rg h1 (by decide)
  have hp2 := i_rg h2 (by decide)
  obtain ⟨a1, a2⟩ := h1
  obtain ⟨b1, b2⟩ := h2
  refine ⟨sok_q hσ (rng_up (rng_up hσ.1 (by decide) (by decide) ⟨a1, a2⟩) (by decide) (by decide) ⟨b1, b2⟩) rfl rfl, ?_⟩
  have hr2 : hf_rn 130 0 [some (.ref 0), some (.int (nI a)), some (.int (nI b))] [] g I J = some (.inl none, g, hf_u I 257 10 (nI a), hf_u J 257 11 (nI b).toInt64) := ((c_surveyF (lay_hx hL) (lay_sk hL) (lay_n hL))).trans (if_pos ⟨hp, hp2⟩)
  obtain ⟨q0, q1, q2, q3, q4, q5, q6, q7, q8, q9, q10, q11, q12, q13, q14, q15, q16⟩ := hC.1
  refine ⟨_, _, hr2, RC_q hP hC rfl rfl rfl rfl rfl ⟨q0, q1, q2, q3, q4, q5, q6, q7, q8, q9, q10, q11, q12, rfl, nI_ll (by omega), q15, q16⟩ (fun r h1 h2 h3 => ?_) (fun r h1 h2 h3 => ?_), fun r hr => ⟨?_, ?_⟩⟩
  all_goals (first | rfl | exact ku_ne (by omega) | exact (ku_ne (by omega)).trans (ku_ne (by omega)))
theorem k_observe (hσ : SOK σ) (hL : Lay g) (hC : RC σ I J) (h1 : a ≤ 4095) (h2 : b ≤ 4095) (h3 : 1 ≤ d ∧ d ≤ 4000) : SOK (sgq σ (up (up (up (sq σ) 10 a) 11 b) 12 d)) ∧ cOK (sgq σ (up (up (up (sq σ) 10 a) 11 b) 12 d)) g I J none (hf_rn 129 0 [some (.ref 0), some (.int (nI a)), some (.int (nI b)), some (.int (nI d))] [] g I J) := by
  have hP := sok_P hσ
  have hp : nI 0 ≤ nI a ∧ nI a ≤ nI 4095 := i_rg ⟨Nat.zero_le _, h1⟩ (by decide)
  have hp2 : nI 0 ≤ nI b ∧ nI b ≤ nI 4095 := i_rg ⟨Nat.zero_le _, h2⟩ (by decide)
  have hp3 := i_rg h3 (by decide)
  refine ⟨sok_q hσ (rng_up (rng_up (rng_up hσ.1 (by decide) (by decide) ⟨Nat.zero_le _, h1⟩) (by decide) (by decide) ⟨Nat.zero_le _, h2⟩) (by decide) (by decide) h3) rfl rfl, ?_⟩
  have hr2 : hf_rn 129 0 [some (.ref 0), some (.int (nI a)), some (.int (nI b)), some (.int (nI d))] [] g I J = some (.inl none, g, I, hf_u (hf_u (hf_u J 257 7 (nI a).toInt64) 257 8 (nI b).toInt64) 257 9 (nI d).toInt64) := (c_observe (lay_hx hL) (lay_sk hL) (lay_n hL)).trans (if_pos ⟨hp, hp2, hp3⟩)
  obtain ⟨q0, q1, q2, q3, q4, q5, q6, q7, q8, q9, q10, q11, q12, q13, q14, q15, q16⟩ := hC.1
  refine ⟨_, _, hr2, RC_q hP hC rfl rfl rfl rfl rfl ⟨q0, q1, q2, q3, q4, q5, q6, q7, q8, q9, nI_ll (by omega), nI_ll (by omega), nI_ll (by omega), q13, q14, q15, q16⟩ (fun r h1 h2 h3 => rfl) (fun r h1 h2 h3 => ?_), fun r hr => ⟨rfl, ?_⟩⟩
  all_goals exact (ku_ne (by omega)).trans ((ku_ne (by omega)).trans (ku_ne (by omega)))
theorem k_momX (hσ : SOK σ) (hL : Lay g) (hC : RC σ I J) : hf_rn 115 0 [some (.ref 0), some (.int 1)] [] g I J = some (.inl (some (.long (smA (sN σ) (sU σ 12)))), g, I, J) := by
  have e : smA (sN σ) (J 8) = smA (sN σ) (sU σ 12) := it_cong fun k s hk => by rw [((RC_g hC).2 k hk).2.2.1]
  have hr := c_momX (I := I) (J := J) (lay_hx hL) (RC_g hC).1 (sok_N hσ).2
  rw [e] at hr
  exact hr
theorem k_momY (hσ : SOK σ) (hL : Lay g) (hC : RC σ I J) : hf_rn 115 0 [some (.ref 0), some (.int 0)] [] g I J = some (.inl (some (.long (smA (sN σ) (sW σ 12)))), g, I, J) := by
  have e : smA (sN σ) (J 10) = smA (sN σ) (sW σ 12) := it_cong fun k s hk => by rw [((RC_g hC).2 k hk).2.2.2]
  have hr := c_momY (I := I) (J := J) (lay_hx hL) (RC_g hC).1 (sok_N hσ).2
  rw [e] at hr
  exact hr
theorem k_universe (hσ : SOK σ) (hL : Lay g) (hC : RC σ I J) (h2 : 2 ≤ s) (h8 : s ≤ 8) : SOK (sgR σ (unF (sq σ) s) (unR s)) ∧ cOK (sgR σ (unF (sq σ) s) (unR s)) g I J (some (.int (nI (s * s)))) (hf_rn 109 0 [some (.ref 0), some (.int (nI s))] [] g I J) := by
  refine ⟨sok_b (un_rng hσ.1 h2 h8) rfl (fun k hk => ?_), ?_⟩
  · obtain ⟨-, -, -, -, l5, l6⟩ := lat_ok s (by omega) h2 k hk
    exact ⟨l5, l6⟩
  · obtain ⟨q0, q1, q2, q3, q4, q5, q6, q7, q8, q9, q10, q11, q12, q13, q14, q15, q16⟩ := hC.1
    exact ⟨_, _, c_universe (lay_hx hL) (lay_al hL) (lay_n hL) h2 h8, RC_b rfl ⟨rfl, rfl, rfl, q3, q4, q5, q6, q7, q8, q9, q10, q11, q12, q13, q14, rfl, q16⟩ (RC_sg (lo_c h2 h8) rfl), kCC (fun a ha => loI_n (by omega)) (fun a ha => loJ_n (by omega))⟩
theorem k_ripple (hσ : SOK σ) (hL : Lay g) (hW : Wv g I) (hC : RC σ I J) (ho : rpOK kx ky ki kj) (ha : sq σ 2 = 1) : ∃ R : R4, SOK (sgR σ (sq σ) R) ∧ cOK (sgR σ (sq σ) R) g I J none (hf_rn 110 0 [some (.ref 0), some (.int kx), some (.int ky), some (.int ki), some (.int kj)] [] g I J) := by
  have hs := sok_s hσ
  have hN := sok_N hσ
  have hc : sN σ = sq σ 0 * sq σ 0 := hσ.1.2
  have ho2 := ho
  obtain ⟨h1, h2, h3, h4, h5⟩ := ho2
  obtain ⟨a, a1, a2, rfl⟩ := z3_3 h1
  obtain ⟨b, b1, b2, rfl⟩ := z3_3 h2
  obtain ⟨am, m1, m2, rfl⟩ := z3_1000 h3
  obtain ⟨ph, p0, p2, rfl⟩ := z3_15 h4
  refine ⟨ripS (sq σ 0) a b am ph (nowR σ), sok_n hσ hσ.1 rfl rfl ripS_ok, ?_⟩
  have hr := c_rippleF (lay_hx hL) (lay_n hL) hW (RC_c hC) hN.2 hC.1.1 ho (hC.1.2.2.1.trans ((age_1 hσ).mpr ha)) (J := J)
  rw [iZ_l ⟨by omega, by omega⟩, iZ_l ⟨by omega, by omega⟩, iZ_l ⟨by omega, by omega⟩, iZ_l ⟨by omega, by omega⟩] at hr
  exact ⟨_, _, hr, RC_R hσ hC (rip_c (RC_rw hC) hs hc ⟨a1, a2⟩ ⟨b1, b2⟩ ⟨m1, m2⟩ ⟨p0, p2⟩) (fun r hr => rpJ_n (by omega)) (fun r hr hr2 => rpJ_n (by omega)), kCC (fun _ _ => rfl) (fun r hr => rpJ_n (by omega))⟩
theorem k_rippleX (hσ : SOK σ) (hL : Lay g) (hC : RC σ I J) (ho : rpOK kx ky ki kj) (ha : ¬ sq σ 2 = 1) : hf_rn 110 0 [some (.ref 0), some (.int kx), some (.int ky), some (.int ki), some (.int kj)] [] g I J = some (.inr 2, hf_th g, I, J) := c_rippleX2 (lay_hx hL) (lay_n hL) ho (fun e => ha ((age_1 hσ).mp (hC.1.2.2.1.symm.trans e)))
theorem k_draw (hσ : SOK σ) (hL : Lay g) (hW : Wv g I) (hC : RC σ I J) (hi : 0 ≤ i) (hw : w ≤ 1000) (ha : sq σ 2 = 1) : ∃ R : R4, SOK (sgR σ (sq σ) R) ∧ cOK (sgR σ (sq σ) R) g I J (some (.int (lZ (dzX.foldl (dzS (sq σ 0) w) (i.toInt, nowR σ)).1).toInt32)) (hf_rn 111 0 [some (.ref 0), some (.int i), some (.int (nI w))] [] g I J) := by
  have hs := sok_s hσ
  have hN := sok_N hσ
  have hc : sN σ = sq σ 0 * sq σ 0 := hσ.1.2
  have h2 : nI 0 ≤ nI w ∧ nI w ≤ nI 1000 := i_rg ⟨Nat.zero_le _, hw⟩ (by decide)
  have hz : 0 ≤ i.toInt ∧ i.toInt < 2147483648 := by
    have h1 := hi
    rw [Int32.le_iff_toInt_le] at h1
    have r := iR_of i
    exact ⟨h1, by have := r.2; omega⟩
  have hw2 : 0 ≤ (w : Int) ∧ (w : Int) ≤ 1000 := by omega
  refine ⟨(dzX.foldl (dzS (sq σ 0) w) (i.toInt, nowR σ)).2, sok_n hσ hσ.1 rfl rfl ?_, ?_⟩
  · exact ripS_ok
  · have hr := c_drawF (lay_hx hL) (lay_n hL) hW (RC_c hC) hN.2 hC.1.1 hi h2 (hC.1.2.2.1.trans ((age_1 hσ).mpr ha)) (J := J)
    obtain ⟨d1, d2, d3⟩ := draw_c hs hc hw2 dzX dzX_k i.toInt (nowR σ) J hz (RC_rw hC)
    rw [← dzX_m, ← i64_z, ← nI_iZ] at d1 d2 d3
    rw [show drF (sN σ) (sq σ 0) (nI w) (i.toInt64, J) = drX.foldl (fun p k => drT (sN σ) (sq σ 0) (nI w) k.1 k.2 p) (i.toInt64, J) from rfl, d1] at hr
    exact ⟨_, _, hr, RC_R hσ hC d2 (fun r hr => d3 r (by omega)) (fun r hr hr2 => d3 r (by omega)), kCC (fun _ _ => rfl) (fun r hr => d3 r (by omega))⟩
theorem k_drawX (hσ : SOK σ) (hL : Lay g) (hC : RC σ I J) (hi : 0 ≤ i) (hw : w ≤ 1000) (ha : ¬ sq σ 2 = 1) : hf_rn 111 0 [some (.ref 0), some (.int i), some (.int (nI w))] [] g I J = some (.inr 2, hf_th g, I, J) := c_drawX2 (lay_hx hL) (lay_n hL) hi (i_rg ⟨Nat.zero_le _, hw⟩ (by decide)) (fun e => ha ((age_1 hσ).mp (hC.1.2.2.1.symm.trans e)))
theorem k_pairs (hσ : SOK σ) (hL : Lay g) (hC : RC σ I J) (ho : 0 ≤ i) : hf_rn 133 0 [some (.ref 0), some (.int i), some (.int j)] [] g I J = some (.inl (some (.int (lpB (cnA (prB (nowR σ) i j)) (sN σ) 0))), g, I, J) := by
  have hN := sok_N hσ
  have hr := (c_pairsF (i := i) (j := j) (J := J) (lay_hx hL) (RC_c hC) hN.2).trans (if_pos ho)
  have e : cnI (sN σ) (fun a b => decide (i.toInt64 ≤ farL (J 4) (J 6) a b ∧ farL (J 4) (J 6) a b < j.toInt64)) = lpB (cnA (prB (nowR σ) i j)) (sN σ) 0 := by
    rw [← lp_eq cnA_c]
    refine it_cong fun lo z hlo => it_cong fun t z ht => ?_
    have hf := far_c (RC_rw hC) (now_ok hσ) hlo (show lo + (1 + t) < sN σ by omega)
    have hb : decide (i.toInt64 ≤ farL (J 4) (J 6) lo (lo + (1 + t)) ∧ farL (J 4) (J 6) lo (lo + (1 + t)) < j.toInt64) = prB (nowR σ) i j lo (lo + (1 + t)) := by
      simp only [hf]
      exact prB_c far_le
    show (if decide (i.toInt64 ≤ farL (J 4) (J 6) lo (lo + (1 + t)) ∧ farL (J 4) (J 6) lo (lo + (1 + t)) < j.toInt64) = true then z + 1 else z) = if prB (nowR σ) i j lo (lo + (1 + t)) = true then z + 1 else z
    simp only [hb]
  rw [e] at hr
  exact hr
theorem k_pairsX (hσ : SOK σ) (hL : Lay g) (hC : RC σ I J) (ho : ¬ 0 ≤ i) : hf_rn 133 0 [some (.ref 0), some (.int i), some (.int j)] [] g I J = some (.inr 1, hf_th g, I, J) := (c_pairsF (lay_hx hL) (RC_c hC) (sok_N hσ).2).trans (if_neg ho)
theorem k_forceX (hσ : SOK σ) (hL : Lay g) (hC : RC σ I J) (hk : k < sN σ) : cOK σ g I J (some (.long (foX σ k))) (hf_rn 113 0 [some (.ref 0), some (.int (nI k)), some (.int 1), some (.int 0)] [] g I J) := by
  have hN := sok_N hσ
  have hr := c_forceAX (J := J) (lay_hx hL) (lay_pu hL) (RC_c hC) hN.2 hk
  rw [show faJ J (sN σ) 240 k = foX σ k from (faJ_k (RC_pl hC).1 (RC_pl hC).2 (sok_G hσ) (sok_S hσ) (RC_rw hC) (now_ok hσ) hN.2 hk).1] at hr
  exact ⟨_, _, hr, RC_fr (sok_P hσ) hC ⟨fun _ _ _ => rfl, fun r hr => faJ_n (by unfold scJ at hr; omega)⟩, kCC (fun _ _ => rfl) (fun r hr => faJ_n (by omega))⟩
theorem k_forceY (hσ : SOK σ) (hL : Lay g) (hC : RC σ I J) (hk : k < sN σ) : cOK σ g I J (some (.long (foY σ k))) (hf_rn 113 0 [some (.ref 0), some (.int (nI k)), some (.int 0), some (.int 0)] [] g I J) := by
  have hN := sok_N hσ
  have hr := c_forceAY (J := J) (lay_hx hL) (lay_pu hL) (RC_c hC) hN.2 hk
  rw [show faJ J (sN σ) 242 k = foY σ k from (faJ_k (RC_pl hC).1 (RC_pl hC).2 (sok_G hσ) (sok_S hσ) (RC_rw hC) (now_ok hσ) hN.2 hk).2] at hr
  exact ⟨_, _, hr, RC_fr (sok_P hσ) hC ⟨fun _ _ _ => rfl, fun r hr => faJ_n (by unfold scJ at hr; omega)⟩, kCC (fun _ _ => rfl) (fun r hr => faJ_n (by omega))⟩
theorem k_forceN (hL : Lay g) (hC : RC σ I J) (hi : ¬ (0 ≤ i ∧ i < nI (sN σ))) : hf_rn 113 0 [some (.ref 0), some (.int i), some (.int x), some (.int y)] [] g I J = some (.inr 3, hf_th g, I, J) := c_forceX (lay_hx hL) (by rw [RC_c hC]; exact hi)
theorem k_step (hσ : SOK σ) (hL : Lay g) (hC : RC σ I J) (m1 : 1 ≤ m ∧ m ≤ 20) (h2 : sq σ 2 + m ≤ 1000) : SOK (sgR σ (up (sq σ) 2 (sq σ 2 + m)) (stN (sq σ 3) (sq σ 4) (sN σ) (sq σ 2) (nowR σ) m)) ∧ cOK (sgR σ (up (sq σ) 2 (sq σ 2 + m)) (stN (sq σ 3) (sq σ 4) (sN σ) (sq σ 2) (nowR σ) m)) g I J (some (.int (nI (sq σ 2 + m)))) (hf_rn 114 0 [some (.ref 0), some (.int (nI m)), none] [] g I J) := by
  have hN := sok_N hσ
  have hA := sok_a hσ
  refine ⟨sok_n hσ (rng_up hσ.1 (by decide) (by decide) ⟨show 1 ≤ sq σ 2 + m by omega, h2⟩) rfl rfl (stN_ok (now_ok hσ) m), ?_⟩
  have hr := c_stepF (J := J) (lay_hx hL) (lay_n hL) (lay_pu hL) (RC_c hC) hN.2 hC.1.2.2.1 m1 h2
  obtain ⟨s1, s2⟩ := st_cN (RC_pl hC).1 (RC_pl hC).2 (sok_G hσ) (sok_S hσ) (RC_rw hC) (now_ok hσ) hN.2 hA.1 m (by omega)
  refine ⟨_, _, hr, RC_n (sok_P hσ) hC rfl rfl rfl rfl rfl ?_ (RC_sg s1 ?_) (fun r h3 h4 => ku_ne (by omega)) (fun r h3 h4 => s2 r (by omega)), kCC (fun r h3 => ku_ne (by omega)) (fun r h3 => s2 r (by omega))⟩
  · obtain ⟨q0, q1, q2, q3, q4, q5, q6, q7, q8, q9, q10, q11, q12, q13, q14, q15, q16⟩ := hC.1
    unfold RCq
    rw [s2 238 (by decide), s2 0 (by decide), s2 13 (by decide), s2 257 (by decide)]
    exact ⟨q0, q1, rfl, q3, q4, q5, q6, q7, q8, q9, q10, q11, q12, q13, q14, q15, q16⟩
  · exact (RC_g hC).1
end
