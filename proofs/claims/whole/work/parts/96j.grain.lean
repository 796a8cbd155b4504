/-! GRAIN -/
def cdIA (e : Nat) : Int32 := if e = 3 then 1 else if e = 1 then 2 else 0
section
variable {σ : Sg} {R : R4} {g : hf_G} {I I2 : hf_I} {J J2 : hf_J} {s k c a b m p : Nat} {i j x y : Int32}
theorem RC_P (h : RC σ I J) : I 13 3 = nI (sP σ) := h.1.2.2.2.2.2.2.2.2.2.2.2.2.2.2.2.1
theorem slB_m1 : slB p (-1) = true := rfl
theorem slB_n (h : slB (sP σ) i = false) (hC : RC σ I J) : ¬ i = -1 ∧ ¬ (0 ≤ i ∧ i < I 13 3) := by
  rw [RC_P hC]
  unfold slB at h
  rw [Bool.or_eq_false_iff, decide_eq_false_iff_not, decide_eq_false_iff_not] at h
  exact h
theorem sl_ex (hσ : SOK σ) (h : slB (sP σ) i = true) : ∃ s, slN i s ∧ sl σ s := slB_ex h (sok_P hσ)
theorem c_slot (hσ : SOK σ) (hL : Lay g) (hC : RC σ I J) (hn : slN i s) (hs : sl σ s) : ∃ S, gA s = S + 1 ∧ Sc g S ∧ hf_rn 140 0 [some (.ref 0), some (.int i)] [] g I J = some (.inl (some (.ref S)), g, I, J) ∧ (S = 1 ∨ 35 ≤ S ∧ S ≤ 222) := by
  have hP := sok_P hσ
  rcases hn with ⟨rfl, rfl⟩ | ⟨rfl, h12⟩
  · exact ⟨1, rfl, hx_sc1 (lay_hx hL), c_sceneNow (lay_hx hL), Or.inl rfl⟩
  · have hp : s < sP σ := by unfold sl at hs; omega
    exact ⟨34 + 17 * s + 1, gA_p h12, pc_sc1 (al_pc (lay_al hL) s h12), c_sceneAt (lay_hx hL) (lay_al hL) (RC_P hC) hP hp, Or.inr (by omega)⟩
def gvS (σ : Sg) (s k m : Nat) : Int64 := if m = 0 then lZ (sX σ s k) else if m = 1 then lZ (sY σ s k) else if m = 2 then sU σ s k else sW σ s k
theorem i_lt (c : Nat) (hc : c ≤ 768) (j : Int32) : (∃ k, k < c ∧ j = nI k) ∨ ¬ (0 ≤ j ∧ j < nI c) := i_cases j c (by omega)
theorem i_in (hc : c ≤ 768) (hk : k < c) : 0 ≤ nI k ∧ nI k < nI c := ⟨nI_pos' (by omega), nI_lt hk (by omega)⟩
theorem agr_grain (hσ : SOK σ) : agr 2 cdIA σ (fun g I J => hf_rn 113 0 [some (.ref 0), some (.int i), some (.int j), some (.int x), none] [] g I J) (fun g I J => hf_rn 169 0 [some (.ref 270), some (.int i), some (.int j), some (.int x), none] [] g I J) := by
  have hN := sok_N hσ
  have hP := sok_P hσ
  have hb : inI x.toInt64 0 3 = rgB 0 3 x := rgB_in (by decide) (by decide)
  cases hs : slB (sP σ) i
  · exact Or.inr ⟨3, some (.long 0), Or.inr (Or.inr rfl), (by decide : ¬ cdIA 3 = 0), ⟨_, rfl⟩, fun g I J hL hW hC => cEX_0 hC (c_grainX4 (lay_hx hL) (c_sceneX (lay_hx hL) (lay_al hL) (slB_n hs hC).1 (slB_n hs hC).2)), fun g I J hL hM => mOK_th hσ hM (m_grainX (lay_md hL) (RM_P hM) hP (RM_c hM) hN.2 false (by rw [hs]; rfl) rfl)⟩
  · obtain ⟨s, hn, hs2⟩ := sl_ex hσ hs
    rcases i_lt (sN σ) (by omega) j with ⟨k, hk, rfl⟩ | hj
    · by_cases hx : rgB 0 3 x = true
      · obtain ⟨m, -, m2, rfl⟩ := rgB_t (by decide) (by decide) hx
        refine Or.inl ⟨σ, some (.long (gvS σ s k m)), hσ, ⟨_, rfl⟩, fun g I J hL hW hC => ?_, fun g I J hL hM => ?_⟩
        · obtain ⟨S, e1, e2, e3, -⟩ := c_slot hσ hL hC hn hs2
          obtain ⟨g1, g2⟩ := hC.2.1 s hs2
          rw [e1] at g1 g2
          have hr := c_grainF (lay_hx hL) (lay_n hL) e3 e2 g1 hN.2 hk (show m < 4 by omega)
          obtain ⟨v1, v2, v3, v4⟩ := g2 k hk
          have e : valL (J (S + 3)) (J (S + 5)) (J (S + 7)) (J (S + 9)) k m = gvS σ s k m := by
            unfold valL gvS
            rw [show J (S + 3) k = lZ (sX σ s k) from v1, show J (S + 5) k = lZ (sY σ s k) from v2, show J (S + 7) k = sU σ s k from v3, show J (S + 9) k = sW σ s k from v4]
          rw [e] at hr
          exact cOK_0 hC hr
        · have hr := m_grainF (J := J) (lay_md hL) (RM_P hM) hP (RM_c hM) hN.2 hs hn hk (hb.trans hx)
          obtain ⟨v1, v2, v3, v4⟩ := hM.2.1 s k hs2 hk
          have hX := hσ.2.1 s k hs2 hk
          have e : gvM I J (64 * s + k) (nI m) = gvS σ s k m := by
            unfold gvM gvS
            rw [v1, v2, v3, v4, nI_ll (by omega), nI_ll (by omega)]
            have : m = 0 ∨ m = 1 ∨ m = 2 ∨ m = 3 := by omega
            rcases this with rfl | rfl | rfl | rfl <;> rfl
          rw [e] at hr
          exact mOK_th hσ hM hr
      · exact Or.inr ⟨1, some (.long 0), Or.inl rfl, (by decide : ¬ cdIA 1 = 0), ⟨_, rfl⟩, fun g I J hL hW hC => by
            obtain ⟨S, e1, e2, e3, -⟩ := c_slot hσ hL hC hn hs2
            obtain ⟨g1, g2⟩ := hC.2.1 s hs2
            rw [e1] at g1 g2
            exact cEX_0 hC (c_grainX1 (lay_hx hL) (lay_n hL) e3 e2 (by rw [g1]; exact i_in (by omega) hk) (rgB_f hx)),
          fun g I J hL hM => mOK_th hσ hM (m_grainX (lay_md hL) (RM_P hM) hP (RM_c hM) hN.2 true (by rw [hs, decide_eq_true (i_in (by omega) hk)]; rfl) (by rw [hb, Bool.eq_false_iff.mpr hx]; rfl))⟩
    · exact Or.inr ⟨3, some (.long 0), Or.inr (Or.inr rfl), (by decide : ¬ cdIA 3 = 0), ⟨_, rfl⟩, fun g I J hL hW hC => by
          obtain ⟨S, e1, e2, e3, -⟩ := c_slot hσ hL hC hn hs2
          obtain ⟨g1, g2⟩ := hC.2.1 s hs2
          rw [e1] at g1 g2
          exact cEX_0 hC (c_grainX3 (lay_hx hL) e3 e2 (by rw [g1]; exact hj)),
        fun g I J hL hM => mOK_th hσ hM (m_grainX (lay_md hL) (RM_P hM) hP (RM_c hM) hN.2 false (by rw [hs, decide_eq_false hj]; rfl) rfl)⟩
end
