section
variable {σ : Sg} {f : Nat → Nat} {g : hf_G} {I I2 : hf_I} {J J2 : hf_J} {s k p a b c d m n v : Nat} {i j x y : Int32}
/-- codes where only an argument out of range is thrown -/
def cdA (e : Nat) : Int32 := if e = 1 then 1 else 0
theorem agr_pull (hσ : SOK σ) : agr 0 cdA σ (fun g I J => hf_rn 114 0 [some (.ref 0), some (.int i), some (.int j)] [] g I J) (fun g I J => hf_rn 170 0 [some (.ref 270), some (.int i), some (.int j)] [] g I J) := by
  have hb1 : inI i.toInt64 0 10000 = rgB 0 10000 i := rgB_in (by decide) (by decide)
  have hb2 : inI j.toInt64 10 1000 = rgB 10 1000 j := rgB_in (by decide) (by decide)
  have hP := sok_P hσ
  by_cases e1 : rgB 0 10000 i = true ∧ rgB 10 1000 j = true
  · obtain ⟨a, a1, a2, rfl⟩ := rgB_t (by decide) (by decide) e1.1
    obtain ⟨b, b1, b2, rfl⟩ := rgB_t (by decide) (by decide) e1.2
    have hp := rgB_p e1.1
    have hp2 := rgB_p e1.2
    refine Or.inl ⟨sgq σ (up (up (sq σ) 3 a) 4 b), none, sok_q hσ (rng_up (rng_up hσ.1 (by decide) (by decide) ⟨a1, a2⟩) (by decide) (by decide) ⟨b1, b2⟩) rfl rfl, rfl, fun g I J hL hW hC => ?_, fun g I J hL hM => ?_⟩
    · have hr2 : hf_rn 114 0 [some (.ref 0), some (.int (nI a)), some (.int (nI b))] [] g I J = some (.inl none, g, I, hf_u (hf_u J 238 0 (nI a).toInt64) 238 1 (nI b).toInt64) := ((c_pull (lay_hx hL) (lay_pu hL) (lay_n hL))).trans (if_pos ⟨hp, hp2⟩)
      obtain ⟨q0, q1, q2, q3, q4, q5, q6, q7, q8, q9, q10, q11, q12, q13, q14, q15, q16⟩ := hC.1
      refine ⟨_, _, hr2, RC_q hP hC rfl rfl rfl rfl rfl ⟨q0, q1, q2, nI_ll (by omega), nI_ll (by omega), q5, q6, q7, q8, q9, q10, q11, q12, q13, q14, q15, q16⟩ (fun r h1 h2 h3 => ?_) (fun r h1 h2 h3 => ?_), fun r hr => ⟨?_, ?_⟩⟩
      all_goals (first | rfl | exact ku_ne (by omega) | exact (ku_ne (by omega)).trans (ku_ne (by omega)))
    · have hr : hf_rn 170 0 [some (.ref 270), some (.int (nI a)), some (.int (nI b))] [] g I J = some (.inl none, g, hf_u (hf_u (thI I 0) 270 3 (nI a)) 270 4 (nI b), J) := by
        rw [m_pull (lay_md hL), hb1, hb2, e1.1, e1.2]
        rfl
      refine ⟨_, _, hr, RM_q hM rfl rfl (hq_u (hq_u (hq_38 hM.1))) (fun r hr => ?_), ?_, fun r hr => ⟨?_, rfl⟩⟩
      · rw [ku_ne hr, ku_ne hr, th_r hr]
      · rw [ku_ix (by decide), ku_ix (by decide), th_38]
      · rw [ku_ne (by omega), ku_ne (by omega), th_r (by omega)]
  · have hm : ∀ g I J, Lay g → hf_rn 170 0 [some (.ref 270), some (.int i), some (.int j)] [] g I J = some (.inl none, g, thI I 1, J) := by
      intro g I J hL
      rw [m_pull (lay_md hL), hb1, hb2, if_neg (by rw [Bool.and_eq_true]; exact e1)]
      rfl
    have hn : ¬ ((nI 0 ≤ i ∧ i ≤ nI 10000) ∧ nI 10 ≤ j ∧ j ≤ nI 1000) := fun c => e1 ⟨decide_eq_true c.1, decide_eq_true c.2⟩
    exact Or.inr ⟨1, none, Or.inl rfl, (by decide : ¬ (1 : Int32) = 0), rfl, fun g I J hL hW hC => cEX_0 hC (((c_pull (lay_hx hL) (lay_pu hL) (lay_n hL))).trans (if_neg hn)), fun g I J hL hM => mOK_th hσ hM (hm g I J hL)⟩
theorem agr_link (hσ : SOK σ) : agr 0 cdA σ (fun g I J => hf_rn 118 0 [some (.ref 0), some (.int i), some (.int j)] [] g I J) (fun g I J => hf_rn 181 0 [some (.ref 270), some (.int i), some (.int j)] [] g I J) := by
  have hb1 : inI i.toInt64 1 2000 = rgB 1 2000 i := rgB_in (by decide) (by decide)
  have hb2 : inI j.toInt64 1 64 = rgB 1 64 j := rgB_in (by decide) (by decide)
  have hP := sok_P hσ
  by_cases e1 : rgB 1 2000 i = true ∧ rgB 1 64 j = true
  · obtain ⟨a, a1, a2, rfl⟩ := rgB_t (by decide) (by decide) e1.1
    obtain ⟨b, b1, b2, rfl⟩ := rgB_t (by decide) (by decide) e1.2
    have hp := rgB_p e1.1
    have hp2 := rgB_p e1.2
    refine Or.inl ⟨sgq σ (up (up (sq σ) 5 a) 6 b), none, sok_q hσ (rng_up (rng_up hσ.1 (by decide) (by decide) ⟨a1, a2⟩) (by decide) (by decide) ⟨b1, b2⟩) rfl rfl, rfl, fun g I J hL hW hC => ?_, fun g I J hL hM => ?_⟩
    · have hr2 : hf_rn 118 0 [some (.ref 0), some (.int (nI a)), some (.int (nI b))] [] g I J = some (.inl none, g, hf_u I 0 8 (nI b), hf_u J 0 7 (nI a).toInt64) := ((c_link (lay_hx hL) (lay_n hL))).trans (if_pos ⟨hp, hp2⟩)
      obtain ⟨q0, q1, q2, q3, q4, q5, q6, q7, q8, q9, q10, q11, q12, q13, q14, q15, q16⟩ := hC.1
      refine ⟨_, _, hr2, RC_q hP hC rfl rfl rfl rfl rfl ⟨q0, q1, q2, q3, q4, nI_ll (by omega), rfl, q7, q8, q9, q10, q11, q12, q13, q14, q15, q16⟩ (fun r h1 h2 h3 => ?_) (fun r h1 h2 h3 => ?_), fun r hr => ⟨?_, ?_⟩⟩
      all_goals (first | rfl | exact ku_ne (by omega) | exact (ku_ne (by omega)).trans (ku_ne (by omega)))
    · have hr : hf_rn 181 0 [some (.ref 270), some (.int (nI a)), some (.int (nI b))] [] g I J = some (.inl none, g, hf_u (hf_u (thI I 0) 270 5 (nI a)) 270 6 (nI b), J) := by
        rw [m_link (lay_md hL), hb1, hb2, e1.1, e1.2]
        rfl
      refine ⟨_, _, hr, RM_q hM rfl rfl (hq_u (hq_u (hq_38 hM.1))) (fun r hr => ?_), ?_, fun r hr => ⟨?_, rfl⟩⟩
      · rw [ku_ne hr, ku_ne hr, th_r hr]
      · rw [ku_ix (by decide), ku_ix (by decide), th_38]
      · rw [ku_ne (by omega), ku_ne (by omega), th_r (by omega)]
  · have hm : ∀ g I J, Lay g → hf_rn 181 0 [some (.ref 270), some (.int i), some (.int j)] [] g I J = some (.inl none, g, thI I 1, J) := by
      intro g I J hL
      rw [m_link (lay_md hL), hb1, hb2, if_neg (by rw [Bool.and_eq_true]; exact e1)]
      rfl
    have hn : ¬ ((nI 1 ≤ i ∧ i ≤ nI 2000) ∧ nI 1 ≤ j ∧ j ≤ nI 64) := fun c => e1 ⟨decide_eq_true c.1, decide_eq_true c.2⟩
    exact Or.inr ⟨1, none, Or.inl rfl, (by decide : ¬ (1 : Int32) = 0), rfl, fun g I J hL hW hC => cEX_0 hC (((c_link (lay_hx hL) (lay_n hL))).trans (if_neg hn)), fun g I J hL hM => mOK_th hσ hM (hm g I J hL)⟩
theorem agr_survey (hσ : SOK σ) : agr 0 cdA σ (fun g I J => hf_rn 132 0 [some (.ref 0), some (.int i), some (.int j)] [] g I J) (fun g I J => hf_rn 213 0 [some (.ref 270), some (.int i), some (.int j)] [] g I J) := by
  have hb1 : inI i.toInt64 0 255 = rgB 0 255 i := rgB_in (by decide) (by decide)
  have hb2 : inI j.toInt64 0 4000 = rgB 0 4000 j := rgB_in (by decide) (by decide)
  have hP := sok_P hσ
  by_cases e1 : rgB 0 255 i = true ∧ rgB 0 4000 j = true
  · obtain ⟨a, a1, a2, rfl⟩ := rgB_t (by decide) (by decide) e1.1
    obtain ⟨b, b1, b2, rfl⟩ := rgB_t (by decide) (by decide) e1.2
    have hp := rgB_p e1.1
    have hp2 := rgB_p e1.2
    refine Or.inl ⟨sgq σ (up (up (sq σ) 13 a) 14 b), none, sok_q hσ (rng_up (rng_up hσ.1 (by decide) (by decide) ⟨a1, a2⟩) (by decide) (by decide) ⟨b1, b2⟩) rfl rfl, rfl, fun g I J hL hW hC => ?_, fun g I J hL hM => ?_⟩
    · have hr2 : hf_rn 132 0 [some (.ref 0), some (.int (nI a)), some (.int (nI b))] [] g I J = some (.inl none, g, hf_u I 257 10 (nI a), hf_u J 257 11 (nI b).toInt64) := ((c_surveyF (lay_hx hL) (lay_sk hL) (lay_n hL))).trans (if_pos ⟨hp, hp2⟩)
      obtain ⟨q0, q1, q2, q3, q4, q5, q6, q7, q8, q9, q10, q11, q12, q13, q14, q15, q16⟩ := hC.1
      refine ⟨_, _, hr2, RC_q hP hC rfl rfl rfl rfl rfl ⟨q0, q1, q2, q3, q4, q5, q6, q7, q8, q9, q10, q11, q12, rfl, nI_ll (by omega), q15, q16⟩ (fun r h1 h2 h3 => ?_) (fun r h1 h2 h3 => ?_), fun r hr => ⟨?_, ?_⟩⟩
      all_goals (first | rfl | exact ku_ne (by omega) | exact (ku_ne (by omega)).trans (ku_ne (by omega)))
    · have hr : hf_rn 213 0 [some (.ref 270), some (.int (nI a)), some (.int (nI b))] [] g I J = some (.inl none, g, hf_u (hf_u (thI I 0) 270 13 (nI a)) 270 14 (nI b), J) := by
        rw [m_survey (lay_md hL), hb1, hb2, e1.1, e1.2]
        rfl
      refine ⟨_, _, hr, RM_q hM rfl rfl (hq_u (hq_u (hq_38 hM.1))) (fun r hr => ?_), ?_, fun r hr => ⟨?_, rfl⟩⟩
      · rw [ku_ne hr, ku_ne hr, th_r hr]
      · rw [ku_ix (by decide), ku_ix (by decide), th_38]
      · rw [ku_ne (by omega), ku_ne (by omega), th_r (by omega)]
  · have hm : ∀ g I J, Lay g → hf_rn 213 0 [some (.ref 270), some (.int i), some (.int j)] [] g I J = some (.inl none, g, thI I 1, J) := by
      intro g I J hL
      rw [m_survey (lay_md hL), hb1, hb2, if_neg (by rw [Bool.and_eq_true]; exact e1)]
      rfl
    have hn : ¬ ((nI 0 ≤ i ∧ i ≤ nI 255) ∧ nI 0 ≤ j ∧ j ≤ nI 4000) := fun c => e1 ⟨decide_eq_true c.1, decide_eq_true c.2⟩
    exact Or.inr ⟨1, none, Or.inl rfl, (by decide : ¬ (1 : Int32) = 0), rfl, fun g I J hL hW hC => cEX_0 hC (((c_surveyF (lay_hx hL) (lay_sk hL) (lay_n hL))).trans (if_neg hn)), fun g I J hL hM => mOK_th hσ hM (hm g I J hL)⟩
theorem agr_observe (hσ : SOK σ) : agr 0 cdA σ (fun g I J => hf_rn 131 0 [some (.ref 0), some (.int i), some (.int j), some (.int x)] [] g I J) (fun g I J => hf_rn 212 0 [some (.ref 270), some (.int i), some (.int j), some (.int x)] [] g I J) := by
  have hb1 : inI i.toInt64 0 4095 = rgB 0 4095 i := rgB_in (by decide) (by decide)
  have hb2 : inI j.toInt64 0 4095 = rgB 0 4095 j := rgB_in (by decide) (by decide)
  have hb3 : inI x.toInt64 1 4000 = rgB 1 4000 x := rgB_in (by decide) (by decide)
  have hP := sok_P hσ
  by_cases e1 : rgB 0 4095 i = true ∧ rgB 0 4095 j = true ∧ rgB 1 4000 x = true
  · obtain ⟨a, a1, a2, rfl⟩ := rgB_t (by decide) (by decide) e1.1
    obtain ⟨b, b1, b2, rfl⟩ := rgB_t (by decide) (by decide) e1.2.1
    obtain ⟨d, d1, d2, rfl⟩ := rgB_t (by decide) (by decide) e1.2.2
    have hp := rgB_p e1.1
    have hp2 := rgB_p e1.2.1
    have hp3 := rgB_p e1.2.2
    refine Or.inl ⟨sgq σ (up (up (up (sq σ) 10 a) 11 b) 12 d), none, sok_q hσ (rng_up (rng_up (rng_up hσ.1 (by decide) (by decide) ⟨a1, a2⟩) (by decide) (by decide) ⟨b1, b2⟩) (by decide) (by decide) ⟨d1, d2⟩) rfl rfl, rfl, fun g I J hL hW hC => ?_, fun g I J hL hM => ?_⟩
    · have hr2 : hf_rn 131 0 [some (.ref 0), some (.int (nI a)), some (.int (nI b)), some (.int (nI d))] [] g I J = some (.inl none, g, I, hf_u (hf_u (hf_u J 257 7 (nI a).toInt64) 257 8 (nI b).toInt64) 257 9 (nI d).toInt64) := (c_observe (lay_hx hL) (lay_sk hL) (lay_n hL)).trans (if_pos ⟨hp, hp2, hp3⟩)
      obtain ⟨q0, q1, q2, q3, q4, q5, q6, q7, q8, q9, q10, q11, q12, q13, q14, q15, q16⟩ := hC.1
      refine ⟨_, _, hr2, RC_q hP hC rfl rfl rfl rfl rfl ⟨q0, q1, q2, q3, q4, q5, q6, q7, q8, q9, nI_ll (by omega), nI_ll (by omega), nI_ll (by omega), q13, q14, q15, q16⟩ (fun r h1 h2 h3 => rfl) (fun r h1 h2 h3 => ?_), fun r hr => ⟨rfl, ?_⟩⟩
      all_goals exact (ku_ne (by omega)).trans ((ku_ne (by omega)).trans (ku_ne (by omega)))
    · have hr : hf_rn 212 0 [some (.ref 270), some (.int (nI a)), some (.int (nI b)), some (.int (nI d))] [] g I J = some (.inl none, g, hf_u (hf_u (hf_u (thI I 0) 270 10 (nI a)) 270 11 (nI b)) 270 12 (nI d), J) := by
        rw [m_observe (lay_md hL), hb1, hb2, hb3, e1.1, e1.2.1, e1.2.2]
        rfl
      refine ⟨_, _, hr, RM_q hM rfl rfl (hq_u (hq_u (hq_u (hq_38 hM.1)))) (fun r hr => ?_), ?_, fun r hr => ⟨?_, rfl⟩⟩
      · rw [ku_ne hr, ku_ne hr, ku_ne hr, th_r hr]
      · rw [ku_ix (by decide), ku_ix (by decide), ku_ix (by decide), th_38]
      · rw [ku_ne (by omega), ku_ne (by omega), ku_ne (by omega), th_r (by omega)]
  · have hm : ∀ g I J, Lay g → hf_rn 212 0 [some (.ref 270), some (.int i), some (.int j), some (.int x)] [] g I J = some (.inl none, g, thI I 1, J) := by
      intro g I J hL
      rw [m_observe (lay_md hL), hb1, hb2, hb3, if_neg (by rw [Bool.and_eq_true, Bool.and_eq_true]; exact e1)]
      rfl
    have hn : ¬ ((nI 0 ≤ i ∧ i ≤ nI 4095) ∧ (nI 0 ≤ j ∧ j ≤ nI 4095) ∧ nI 1 ≤ x ∧ x ≤ nI 4000) := fun c => e1 ⟨decide_eq_true c.1, decide_eq_true c.2.1, decide_eq_true c.2.2⟩
    exact Or.inr ⟨1, none, Or.inl rfl, (by decide : ¬ (1 : Int32) = 0), rfl, fun g I J hL hW hC => cEX_0 hC ((c_observe (lay_hx hL) (lay_sk hL) (lay_n hL)).trans (if_neg hn)), fun g I J hL hM => mOK_th hσ hM (hm g I J hL)⟩
end
