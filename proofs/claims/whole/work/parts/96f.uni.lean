/-! UNIVERSE, RIPPLE -/
def cdAS (e : Nat) : Int32 := if e = 1 then 1 else if e = 2 then 2 else 0
section
variable {σ : Sg} {f : Nat → Nat} {R : R4} {g : hf_G} {I I2 : hf_I} {J J2 : hf_J} {s k p c n t : Nat} {a b am ph z : Int} {i j x y : Int32} {v : Int64}
theorem RC_sg (h : RWc J (f 1) R) (hI : I 2 5 = nI (f 1)) : RCg (sgR σ f R) I J 12 := ⟨hI, h⟩
theorem RM_sg (h : RWm I J (f 1) R) : RMg (sgR σ f R) I J := h
theorem RC_rw (h : RC σ I J) : RWc J (sN σ) (nowR σ) := (RC_g h).2
theorem RM_rw (h : RM σ I J) : RWm I J (sN σ) (nowR σ) := RM_g h
theorem now_ok (h : SOK σ) : R4ok (sN σ) (nowR σ) := fun k hk => h.2.1 12 k (Or.inl rfl) hk
theorem kCC {I3 : hf_I} {J3 : hf_J} (h1 : ∀ a, 270 ≤ a → I3 a = I a) (h2 : ∀ a, 270 ≤ a → J3 a = J a) : kC I I3 J J3 := fun a ha => ⟨h1 a ha, h2 a ha⟩
def unF (f : Nat → Nat) (s : Nat) : Nat → Nat := up (up (up (up f 0 s) 1 (s * s)) 2 1) 15 0
def unR (s : Nat) : R4 := ((fun k => ltN s (k / s)), (fun k => ltN s (k % s)), (fun _ => 0), (fun _ => 0))
theorem un_rng (h : Rng f) (h2 : 2 ≤ s) (h8 : s ≤ 8) : Rng (unF f s) := by
  have b1 : 2 * 2 ≤ s * s := Nat.mul_le_mul h2 h2
  have b2 : s * s ≤ 8 * 8 := Nat.mul_le_mul h8 h8
  refine ⟨fun i hi => ?_, rfl⟩
  unfold unF
  by_cases e15 : i = 15
  · subst e15; rw [up_s]; exact ⟨by decide, by decide⟩
  · rw [up_n e15]
    by_cases e2 : i = 2
    · subst e2; rw [up_s]; exact ⟨by decide, by decide⟩
    · rw [up_n e2]
      by_cases e1 : i = 1
      · subst e1; rw [up_s]; exact ⟨b1, b2⟩
      · rw [up_n e1]
        by_cases e0 : i = 0
        · subst e0; rw [up_s]; exact ⟨h2, h8⟩
        · rw [up_n e0]; exact h.1 i hi
theorem loJ_n (h : p ≠ 4 ∧ p ≠ 6 ∧ p ≠ 8 ∧ p ≠ 10) : loJ J s p = J p := by
  unfold loJ rwm2
  rw [rwm_ne h.2.2.2, rwm_ne h.2.2.1, rwm_ne h.2.1, rwm_ne h.1]
theorem loI_n (h : 14 ≤ p) : loI I s p = I p := by
  unfold loI
  rw [ku_ne (by omega), ku_ne (by omega), ku_ne (by omega), ku_ne (by omega)]
theorem lo_c (h2 : 2 ≤ s) (h8 : s ≤ 8) : RWc (loJ J s) (s * s) (unR s) := by
  intro k hk
  have b2 : s * s ≤ 8 * 8 := Nat.mul_le_mul h8 h8
  obtain ⟨l1, l2, -, -, -, -⟩ := lat_ok s (by omega) h2 k hk
  unfold loJ rwm2
  rw [rwm_ne (by decide), rwm_ne (by decide), rwm_ne (by decide), rwm_lt hk, rwm_ne (by decide), rwm_ne (by decide), rwm_lt hk, rwm_ne (by decide), rwm_lt (by omega), rwm_lt (by omega)]
  exact ⟨l1, l2, rfl, rfl⟩
theorem lo_m (h2 : 2 ≤ s) (h8 : s ≤ 8) {O P : Nat → Int32} : RWm (w2 I 271 272 (nwR O (s * s) (fun k => ltI (nI (k / s)) (nI s))) (nwR P (s * s) (fun k => ltI (nI (k % s)) (nI s)))) (w2 J 273 274 (nwR (J 273) (s * s) (fun _ => 0)) (nwR (J 274) (s * s) (fun _ => 0))) (s * s) (unR s) := by
  intro k hk
  obtain ⟨-, -, l3, l4, -, -⟩ := lat_ok s (by omega) h2 k hk
  rw [w2_a (by decide), w2_b, w2_a (by decide), w2_b, nwR_at hk, nwR_at hk, nwR_at hk, nwR_at hk, l3, l4, ← nI_iZ, ← nI_iZ]
  exact ⟨rfl, rfl, rfl, rfl⟩
theorem agr_universe (hσ : SOK σ) : agr 1 cdA σ (fun g I J => hf_rn 110 0 [some (.ref 0), some (.int i)] [] g I J) (fun g I J => hf_rn 161 0 [some (.ref 270), some (.int i)] [] g I J) := by
  have hb1 : inI i.toInt64 2 8 = rgB 2 8 i := rgB_in (by decide) (by decide)
  by_cases e1 : rgB 2 8 i = true
  · obtain ⟨s, h2, h8, rfl⟩ := rgB_t (by decide) (by decide) e1
    refine Or.inl ⟨sgR σ (unF (sq σ) s) (unR s), some (.int (nI (s * s))), sok_b (un_rng hσ.1 h2 h8) rfl (fun k hk => ?_), ⟨_, rfl⟩, fun g I J hL hW hC => ?_, fun g I J hL hM => ?_⟩
    · obtain ⟨-, -, -, -, l5, l6⟩ := lat_ok s (by omega) h2 k hk
      exact ⟨l5, l6⟩
    · obtain ⟨q0, q1, q2, q3, q4, q5, q6, q7, q8, q9, q10, q11, q12, q13, q14, q15, q16⟩ := hC.1
      exact ⟨_, _, c_universe (lay_hx hL) (lay_al hL) (lay_n hL) h2 h8, RC_b rfl ⟨rfl, rfl, rfl, q3, q4, q5, q6, q7, q8, q9, q10, q11, q12, q13, q14, rfl, q16⟩ (RC_sg (lo_c h2 h8) rfl), kCC (fun a ha => loI_n (by omega)) (fun a ha => loJ_n (by omega))⟩
    · refine ⟨_, _, m_universeF (lay_md hL) h2 h8 (by rw [hb1]; exact e1), RM_b rfl ?_ (RM_sg (lo_m h2 h8)), ?_, fun r hr => ⟨?_, ?_⟩⟩
      · rw [w2_n (by decide) (by decide)]
        exact hq_u (hq_u (hq_u (hq_u (hq_38 hM.1))))
      · rw [w2_n (by decide) (by decide)]
        unfold bgI
        rw [ku_ix (by decide), ku_ix (by decide), ku_ix (by decide), ku_ix (by decide), th_38]
      · rw [w2_n (by omega) (by omega)]
        unfold bgI
        rw [ku_ne (by omega), ku_ne (by omega), ku_ne (by omega), ku_ne (by omega), th_r (by omega)]
      · rw [w2_n (by omega) (by omega)]
  · have hf : inI i.toInt64 2 8 = false := by rw [hb1]; exact Bool.eq_false_iff.mpr e1
    exact Or.inr ⟨1, some (.int 0), Or.inl rfl, (by decide : ¬ (1 : Int32) = 0), ⟨_, rfl⟩, fun g I J hL hW hC => cEX_0 hC (c_universeX (lay_hx hL) (lay_n hL) (rgB_f e1)), fun g I J hL hM => mOK_th hσ hM (m_universeX (lay_md hL) hf)⟩
theorem age_1 (hσ : SOK σ) : (nI (sq σ 2) = 1) = (sq σ 2 = 1) := by
  have h : loT 2 ≤ sq σ 2 ∧ sq σ 2 ≤ 1000 := sok_r hσ (i := 2) (by decide)
  exact z_ie (b := 1) (by omega) (by decide)
end
