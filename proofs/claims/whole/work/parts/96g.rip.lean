section
variable {σ : Sg} {f : Nat → Nat} {R : R4} {g : hf_G} {I I2 : hf_I} {J J2 : hf_J} {s k p c n t : Nat} {a b am ph z : Int} {i j x y kx ky ki kj : Int32} {v : Int64}
theorem zm3 : iZ (-3) = -3 ∧ lZ (-3) = -3 ∧ iZ (-1000) = -1000 ∧ lZ (-1000) = -1000 := by decide +kernel
theorem inI_m3 : inI i.toInt64 (-3) 3 = decide (-3 ≤ i ∧ i ≤ 3) := by
  have h := inI_c (i := i) (a := -3) (b := 3) ⟨by decide, by decide⟩ ⟨by decide, by decide⟩
  rw [zm3.1, zm3.2.1] at h
  exact h
theorem inI_m1000 : inI i.toInt64 (-1000) 1000 = decide (-1000 ≤ i ∧ i ≤ 1000) := by
  have h := inI_c (i := i) (a := -1000) (b := 1000) ⟨by decide, by decide⟩ ⟨by decide, by decide⟩
  rw [zm3.2.2.1, zm3.2.2.2] at h
  exact h
theorem z3_3 (h : -3 ≤ i ∧ i ≤ 3) : ∃ a : Int, -3 ≤ a ∧ a ≤ 3 ∧ i = iZ a := i3_z (b := 3) ⟨by decide, by decide⟩ (by rw [zm3.1]; exact h)
theorem z3_1000 (h : -1000 ≤ i ∧ i ≤ 1000) : ∃ a : Int, -1000 ≤ a ∧ a ≤ 1000 ∧ i = iZ a := i3_z (b := 1000) ⟨by decide, by decide⟩ (by rw [zm3.2.2.1]; exact h)
theorem z3_15 (h : 0 ≤ i ∧ i ≤ 15) : ∃ a : Int, 0 ≤ a ∧ a ≤ 15 ∧ i = iZ a := by
  obtain ⟨n, n1, n2, rfl⟩ := i_rng (lo := 0) (hi := 15) (by decide) h (by decide)
  exact ⟨n, by omega, by omega, nI_iZ n⟩
theorem inI_15 : inI i.toInt64 0 15 = decide (0 ≤ i ∧ i ≤ 15) := inI_c (i := i) (a := 0) (b := 15) ⟨by decide, by decide⟩ ⟨by decide, by decide⟩
theorem rpC_ok : (rpC kx ky ki kj = true) = rpOK kx ky ki kj := by
  unfold rpC rpOK
  rw [inI_m3, inI_m3, inI_m1000, inI_15]
  simp only [Bool.and_eq_true, Bool.not_eq_true', decide_eq_true_eq, ← Bool.decide_and, decide_eq_false_iff_not, eq_iff_iff]
  constructor
  · rintro ⟨h1, h2, h3, h4, h5⟩
    exact ⟨h1, h2, h4, h5, h3⟩
  · rintro ⟨h1, h2, h3, h4, h5⟩
    exact ⟨h1, h2, h5, h3, h4⟩
theorem RCq_J (h : RCq σ I J) (hJ : ∀ a, a = 0 ∨ a = 13 ∨ a = 238 ∨ a = 257 → J2 a = J a) : RCq (sgR σ (sq σ) R) I J2 := by
  unfold RCq at h ⊢
  rw [hJ 238 (by omega), hJ 0 (by omega), hJ 13 (by omega), hJ 257 (by omega)]
  exact h
/-- the model's grains of now are told anew -/
theorem RM_R (hσ : SOK σ) (h : RM σ I J) (hf1 : f 1 = sq σ 1) (hf15 : f 15 = sq σ 15) (hq : ∀ i, i < 16 → I2 270 i = nI (f i)) (hw : RWm I2 J2 (sN σ) R) (hX : ∀ j, j < 768 → I2 271 j = I 271 j ∧ I2 272 j = I 272 j ∧ J2 273 j = J 273 j ∧ J2 274 j = J 274 j ∧ I2 275 j = I 275 j) (hh : ∀ p, p < 12 → I2 276 p = I 276 p) : RM (sgR σ f R) I2 J2 := by
  refine RM_n (sok_P hσ) (sok_N hσ).2 h hf1 hf15 hq (RM_sg ?_) hX hh
  rw [hf1]
  exact hw
theorem RC_R (hσ : SOK σ) (h : RC σ I J) (hw : RWc J2 (sN σ) R) (hJ : ∀ a, a = 0 ∨ a = 13 ∨ a = 238 ∨ a = 257 → J2 a = J a) (hJ2 : ∀ a, 34 ≤ a → a < 238 → J2 a = J a) : RC (sgR σ (sq σ) R) I J2 := RC_n (sok_P hσ) h rfl rfl rfl rfl rfl (RCq_J h.1 hJ) (RC_sg hw (RC_g h).1) (fun _ _ _ => rfl) hJ2
theorem tgI_n (h : p ≠ 271 ∧ p ≠ 272) : tgI I n c kx ky ki kj p = I p := w2_n h.1 h.2
theorem tgJ_n (h : p ≠ 273 ∧ p ≠ 274) : tgJ J n c kx ky ki kj p = J p := w2_n h.1 h.2
theorem tg_b (h : k < 768) : tgI I n c kx ky ki kj 271 k = I 271 k ∧ tgI I n c kx ky ki kj 272 k = I 272 k ∧ tgJ J n c kx ky ki kj 273 k = J 273 k ∧ tgJ J n c kx ky ki kj 274 k = J 274 k ∧ tgI I n c kx ky ki kj 275 k = I 275 k := by
  exact ⟨(congrFun (w2_a (by decide)) k).trans (nwR_b h), (congrFun w2_b k).trans (nwR_b h), (congrFun (w2_a (by decide)) k).trans (nwR_b h), (congrFun w2_b k).trans (nwR_b h), congrFun (tgI_n (by decide)) k⟩
theorem RWm_th (h : RWm I J c R) : RWm (thI I x) J c R := fun k hk => by rw [th_r (by decide), th_r (by decide)]; exact h k hk
theorem sok_s (hσ : SOK σ) : 2 ≤ sq σ 0 ∧ sq σ 0 ≤ 8 := sok_r hσ (i := 0) (by decide)
theorem agr_ripple (hσ : SOK σ) : agr 0 cdAS σ (fun g I J => hf_rn 111 0 [some (.ref 0), some (.int kx), some (.int ky), some (.int ki), some (.int kj)] [] g I J) (fun g I J => hf_rn 164 0 [some (.ref 270), some (.int kx), some (.int ky), some (.int ki), some (.int kj), none] [] g I J) := by
  have hs := sok_s hσ
  have hN := sok_N hσ
  have hc : sN σ = sq σ 0 * sq σ 0 := hσ.1.2
  by_cases ho : rpOK kx ky ki kj
  · by_cases ha : sq σ 2 = 1
    · have ho2 := ho
      obtain ⟨h1, h2, h3, h4, h5⟩ := ho2
      obtain ⟨a, a1, a2, rfl⟩ := z3_3 h1
      obtain ⟨b, b1, b2, rfl⟩ := z3_3 h2
      obtain ⟨am, m1, m2, rfl⟩ := z3_1000 h3
      obtain ⟨ph, p0, p2, rfl⟩ := z3_15 h4
      refine Or.inl ⟨sgR σ (sq σ) (ripS (sq σ 0) a b am ph (nowR σ)), none, sok_n hσ hσ.1 rfl rfl ripS_ok, rfl, fun g I J hL hW hC => ?_, fun g I J hL hM => ?_⟩
      · have hr := c_rippleF (lay_hx hL) (lay_n hL) hW (RC_c hC) hN.2 hC.1.1 ho (hC.1.2.2.1.trans ((age_1 hσ).mpr ha)) (J := J)
        rw [iZ_l ⟨by omega, by omega⟩, iZ_l ⟨by omega, by omega⟩, iZ_l ⟨by omega, by omega⟩, iZ_l ⟨by omega, by omega⟩] at hr
        exact ⟨_, _, hr, RC_R hσ hC (rip_c (RC_rw hC) hs hc ⟨a1, a2⟩ ⟨b1, b2⟩ ⟨m1, m2⟩ ⟨p0, p2⟩) (fun r hr => rpJ_n (by omega)) (fun r hr hr2 => rpJ_n (by omega)), kCC (fun _ _ => rfl) (fun r hr => rpJ_n (by omega))⟩
      · refine ⟨_, _, m_rippleF (lay_md hL) (RM_c hM) hN.2 (hM.1 0 (by decide)) hs.2 (by omega) ((rpC_ok (kx := iZ a)).mpr ho) ((hM.1 2 (by decide)).trans ((age_1 hσ).mpr ha)), RM_R hσ hM rfl rfl ?_ (rip_m (RWm_th (RM_rw hM)) (now_ok hσ) hs hc ⟨a1, a2⟩ ⟨b1, b2⟩ ⟨m1, m2⟩ ⟨p0, p2⟩) (fun j hj => tg_b hj) (fun p hp => ?_), ?_, fun r hr => ⟨?_, ?_⟩⟩
        · rw [tgI_n (by decide)]; exact hq_38 hM.1
        · rw [tgI_n (by decide), th_r (by decide)]
        · rw [tgI_n (by decide), th_38]
        · rw [tgI_n (by omega), th_r (by omega)]
        · rw [tgJ_n (by omega)]
    · exact Or.inr ⟨2, none, Or.inr (Or.inl rfl), (by decide : ¬ cdAS 2 = 0), rfl, fun g I J hL hW hC => cEX_0 hC (c_rippleX2 (lay_hx hL) (lay_n hL) ho (fun e => ha ((age_1 hσ).mp (hC.1.2.2.1.symm.trans e)))), fun g I J hL hM => mOK_th hσ hM (m_rippleX2 (lay_md hL) (rpC_ok.mpr ho) (fun e => ha ((age_1 hσ).mp ((hM.1 2 (by decide)).symm.trans e))))⟩
  · exact Or.inr ⟨1, none, Or.inl rfl, (by decide : ¬ cdAS 1 = 0), rfl, fun g I J hL hW hC => cEX_0 hC (c_rippleX1 (lay_hx hL) (lay_n hL) ho), fun g I J hL hM => mOK_th hσ hM (m_rippleX1 (lay_md hL) (Bool.eq_false_iff.mpr fun e => ho (rpC_ok.mp e)))⟩
end
