/-! EACH CALL OF THE CLASS: halos, trees, galaxies, the sky -/
section
variable {σ : Sg} {f : Nat → Nat} {g : hf_G} {I I2 : hf_I} {J J2 : hf_J} {s k p a b c d m n v w t q h l : Nat} {i j x y : Int32} {R : Nat → Option Nat}
theorem k_halos (hσ : SOK σ) (hL : Lay g) (hC : RC σ I J) (hn : slN i s) (hs2 : sl σ s) (hR : hOf σ s R n l t) : cOK σ g I J (some (.int (nI n))) (hf_rn 117 0 [some (.ref 0), some (.int i)] [] g I J) := by
  obtain ⟨S, I2, J2, c1, c2, c3, c4, c5, c6, c7, -⟩ := cls_slot hσ hL hC hn hs2 hR
  have hr := c_halosF (lay_hx hL) c1 c2
  rw [c7] at hr
  exact cOK_1 c5 c6 hr
theorem k_anew (hσ : SOK σ) (hL : Lay g) (hC : RC σ I J) (hn : slN i s) (hs2 : sl σ s) (hR : hOf σ s R n l t) : cOK σ g I J (some (.int (nI n))) (hf_rn 118 0 [some (.ref 0), some (.int i)] [] g I J) := by
  have hP := sok_P hσ
  have hN := sok_N hσ
  obtain ⟨S, I2, J2, c1, c2, c3, c4, c5, c6, c7, c8, c9, -⟩ := cls_slot hσ hL hC hn hs2 hR
  have hr := c_halosAF (lay_hx hL) (lay_jo hL) c1 c2 (by omega) (by have := (c5.2.1 s hs2).1; rw [c3] at this; exact this) hN.2
  rw [c8, c9, anew_n (L2 := lkZ (sX σ s) (sY σ s) l) hN.2 hR.2.1 hR.2.2.1 (fun a b _ _ => lk_sym) (fun a b ha hb => nrS hσ hs2 c5 c3 hR.2.2.2.1 ha hb) hR.1] at hr
  refine ⟨_, _, hr, RC_fr hP c5 ⟨fun _ _ _ => rfl, fun a ha => w2_n (by unfold scJ at ha; omega) (by unfold scJ at ha; omega)⟩, fun a ha => ⟨(c6 a ha).1, (w2_n (by omega) (by omega)).trans (c6 a ha).2⟩⟩
theorem k_grains (hσ : SOK σ) (hL : Lay g) (hC : RC σ I J) (hn : slN i s) (hs2 : sl σ s) (hR : hOf σ s R n l t) (hk : k < n) : cOK σ g I J (some (.long (gbS R (sN σ) k))) (hf_rn 119 0 [some (.ref 0), some (.int i), some (.int (nI k)), none] [] g I J) := by
  have n2 : n ≤ 64 := hR.2.2.2.2.1
  obtain ⟨S, I2, J2, hc⟩ := cls_slot hσ hL hC hn hs2 hR
  have hb := cSl_b hc hσ hk
  obtain ⟨c1, c2, c3, c4, c5, c6, c7, -⟩ := hc
  have hr := c_grainsF (lay_hx hL) c1 c2 c7 n2 hk
  rw [hb] at hr
  exact cOK_1 c5 c6 hr
theorem k_grainsX (hσ : SOK σ) (hL : Lay g) (hC : RC σ I J) (hn : slN i s) (hs2 : sl σ s) (hR : hOf σ s R n l t) (hj : ¬ (0 ≤ j ∧ j < nI n)) : cEX σ g I J 3 (hf_rn 119 0 [some (.ref 0), some (.int i), some (.int j), none] [] g I J) := by
  obtain ⟨S, I2, J2, c1, c2, c3, c4, c5, c6, c7, -⟩ := cls_slot hσ hL hC hn hs2 hR
  exact cEX_1 c5 c6 (c_grainsX (lay_hx hL) c1 c2 (by rw [c7]; exact hj))
theorem k_ofHalo (hσ : SOK σ) (hL : Lay g) (hC : RC σ I J) (hn : slN i s) (hs2 : sl σ s) (hR : hOf σ s R n l t) (hk : k < n) (hq : hLow R (sN σ) k q) (m2 : m ≤ 5) : cOK σ g I J (some (.long (tlS σ s R k q m))) (hf_rn 120 0 [some (.ref 0), some (.int i), some (.int (nI k)), some (.int (nI m)), none] [] g I J) := by
  have hN := sok_N hσ
  have n2 : n ≤ 64 := hR.2.2.2.2.1
  obtain ⟨S, I2, J2, hc⟩ := cls_slot hσ hL hC hn hs2 hR
  have hv := cSl_v (m := m) hσ hR hs2 hc hk hq
  have hbq := cSl_b hc hσ hk
  obtain ⟨c1, c2, c3, c4, c5, c6, c7, -⟩ := hc
  have hlo := low_S hN.2 hq
  rw [← hbq] at hlo
  have hr := c_ofHaloF (m := m) (lay_hx hL) (lay_n hL) c1 c2 c7 n2 hk (by have := (c5.2.1 s hs2).1; rw [c3] at this; exact this) hN.2 hlo (by have := hq.1; omega) (by omega)
  rw [hv] at hr
  exact cOK_1 c5 c6 hr
theorem k_ofHaloX1 (hσ : SOK σ) (hL : Lay g) (hC : RC σ I J) (hn : slN i s) (hs2 : sl σ s) (hR : hOf σ s R n l t) (hk : k < n) (hx : ¬ (nI 0 ≤ y ∧ y ≤ nI 5)) : cEX σ g I J 1 (hf_rn 120 0 [some (.ref 0), some (.int i), some (.int (nI k)), some (.int y), none] [] g I J) := by
  have n2 : n ≤ 64 := hR.2.2.2.2.1
  obtain ⟨S, I2, J2, c1, c2, c3, c4, c5, c6, c7, -⟩ := cls_slot hσ hL hC hn hs2 hR
  exact cEX_1 c5 c6 (c_ofHaloX3 (lay_hx hL) (lay_n hL) c1 c2 (by rw [c7]; exact i_in (by omega) hk) hx)
theorem k_ofHaloX3 (hσ : SOK σ) (hL : Lay g) (hC : RC σ I J) (hn : slN i s) (hs2 : sl σ s) (hR : hOf σ s R n l t) (hj : ¬ (0 ≤ j ∧ j < nI n)) : cEX σ g I J 3 (hf_rn 120 0 [some (.ref 0), some (.int i), some (.int j), some (.int y), none] [] g I J) := by
  obtain ⟨S, I2, J2, c1, c2, c3, c4, c5, c6, c7, -⟩ := cls_slot hσ hL hC hn hs2 hR
  exact cEX_1 c5 c6 (c_ofHaloX (lay_hx hL) c1 c2 (by rw [c7]; exact hj))
theorem k_bound (hσ : SOK σ) (hL : Lay g) (hC : RC σ I J) (hn : slN i s) (hs2 : sl σ s) (hR : hOf σ s R n l t) (hk : k < n) : cOK σ g I J (some (.long (orL (sN σ) (bnd σ s R k 64)))) (hf_rn 121 0 [some (.ref 0), some (.int i), some (.int (nI k)), none] [] g I J) := by
  have hP := sok_P hσ
  have hN := sok_N hσ
  have n2 : n ≤ 64 := hR.2.2.2.2.1
  obtain ⟨S, I2, J2, hc⟩ := cls_slot hσ hL hC hn hs2 hR
  have hbq := cSl_b hc hσ hk
  obtain ⟨c1, c2, c3, c4, c5, c6, c7, -⟩ := hc
  have hr := c_boundF (lay_hx hL) (lay_un hL) (lay_pu hL) c1 c2 (by omega) c7 n2 hk (by have := (c5.2.1 s hs2).1; rw [c3] at this; exact this) hN.2
  rw [hbq] at hr
  have hb := (bnd_c (R := R) (h := k) hσ hs2 c5 c3 64).1
  have e : (bdF (sN σ) (hdL (J2 238 0) (J2 (S + 3)) (J2 (S + 5))) (J2 (S + 7)) (J2 (S + 9)) (gbS R (sN σ) k) (suA (sN σ) (hdL (J2 238 0) (J2 (S + 3)) (J2 (S + 5))) (gbS R (sN σ) k) (zeR J2 256 64) (sN σ)) 64).1 = orL (sN σ) (bnd σ s R k 64) := bt_ext fun x hx => by rw [hb x hx, bt_orL hN.2 hx]
  rw [e] at hr
  exact ⟨_, _, hr, RC_fr hP c5 ⟨fun _ _ _ => rfl, fun a ha => kw_ne (by unfold scJ at ha; omega)⟩, fun a ha => ⟨(c6 a ha).1, (kw_ne (by omega)).trans (c6 a ha).2⟩⟩
theorem k_keep (hσ : SOK σ) (hP2 : sP σ < 12) (hE : EnH (lkN σ) (sN σ) (sq σ 6) R n) (hn : n ≤ 64) : SOK (sgK σ R n) ∧ ∀ {g : hf_G} {I : hf_I} {J : hf_J}, Lay g → RC σ I J → cOK (sgK σ R n) g I J (some (.int (nI (sP σ)))) (hf_rn 122 0 [some (.ref 0)] [] g I J) :=
  ⟨sok_K hσ hP2 hE hn, fun hL hC => cls_keep hσ hL hP2 hE hn hC⟩
theorem k_next (hσ : SOK σ) (hL : Lay g) (hC : RC σ I J) (hp : p < sP σ) (hk : k < sC σ p) : hf_rn 123 0 [some (.ref 0), some (.int (nI p)), some (.int (nI k))] [] g I J = some (.inl (some (.int (cdI (nxS σ p k)))), g, I, J) := c_nextF (lay_hx hL) (RC_alb hσ hL hC) hp hk
theorem k_nextX (hσ : SOK σ) (hL : Lay g) (hC : RC σ I J) (hx : ¬ isK σ i j) : hf_rn 123 0 [some (.ref 0), some (.int i), some (.int j)] [] g I J = some (.inr 3, hf_th g, I, J) := c_nextX (lay_hx hL) (nx_ok hσ hL hC hx)
theorem k_from (hσ : SOK σ) (hL : Lay g) (hC : RC σ I J) (hp : p < sP σ) (hk : k < sC σ p) : hf_rn 124 0 [some (.ref 0), some (.int (nI p)), some (.int (nI k))] [] g I J = some (.inl (some (.int (cdI (frS σ p k)))), g, I, J) := by
  have hr := c_fromF (lay_hx hL) (RC_alb hσ hL hC) hp hk
  rw [frS_c hσ hC hp hk] at hr
  exact hr
theorem k_tree (hσ : SOK σ) (hL : Lay g) (hC : RC σ I J) (hp : p < sP σ) (hk : k < sC σ p) (hm : m ≤ 2) : cOK σ g I J (some (.int (trS σ p k m))) (hf_rn 125 0 [some (.ref 0), some (.int (nI p)), some (.int (nI k)), some (.int (nI m))] [] g I J) := by
  have hB := RC_alb hσ hL hC
  have : m = 0 ∨ m = 1 ∨ m = 2 := by omega
  rcases this with rfl | rfl | rfl
  · have hr := c_tree0 (lay_hx hL) (lay_n hL) hB hp hk
    rw [brS_c hσ hC hp hk] at hr
    exact cOK_0 hC hr
  · have hr := c_tree1 (lay_hx hL) (lay_n hL) hB hp hk
    rw [hmA_cong (nx2 := nxC σ) (fun e o he ho => (nxC_k he ho).symm), hm_c hp (fun m o a b h => (nxC_lt hσ h).2.2.2.1)] at hr
    exact cOK_0 hC hr
  · have hr := c_tree2 (lay_hx hL) (lay_n hL) hB hp hk
    rw [ts_cS hσ hp hk] at hr
    exact ⟨_, _, hr, RC_fr (sok_P hσ) hC ⟨fun _ _ _ => rfl, fun r hr => kw_ne (by unfold scJ at hr; omega)⟩, kCC (fun _ _ => rfl) (fun r hr => kw_ne (by omega))⟩
theorem k_treeX (hσ : SOK σ) (hL : Lay g) (hC : RC σ I J) (hx : ¬ isK σ i j) : hf_rn 125 0 [some (.ref 0), some (.int i), some (.int j), some (.int x)] [] g I J = some (.inr 3, hf_th g, I, J) := c_treeX (lay_hx hL) (nx_ok hσ hL hC hx)
theorem k_galaxy (hσ : SOK σ) (hL : Lay g) (hC : RC σ I J) (hp : p < sP σ) (hk : k < sC σ p) (m2 : m ≤ 3) : hf_rn 127 0 [some (.ref 0), some (.int (nI p)), some (.int (nI k)), some (.int (nI m))] [] g I J = some (.inl (some (.int (nI ((vaS σ).2.2 (64 * p + k) m)))), g, I, J) := by
  have hr := c_galaxyF (lay_hx hL) (lay_n hL) (RC_alb hσ hL hC) hp hk (show m < 4 by omega)
  have e := RC_vQ hσ hC p k m hp hk (by omega)
  have hP := sok_P hσ
  have hc := sok_C hσ hp
  obtain ⟨-, -, h3⟩ := gl_vS hσ
  rw [if_neg (by omega), Nat.add_zero] at e
  have e2 : (J (34 + 17 * p + 16) (4 * k + m)).toInt32 = nI ((vaS σ).2.2 (64 * p + k) m) := by
    rw [show J (34 + 17 * p + 16) (4 * k + m) = lZ ((vaS σ).2.2 (64 * p + k) m : Nat) from e, lZ_i, ← nI_iZ]
  rw [e2] at hr
  exact hr
theorem k_kept (hσ : SOK σ) (hL : Lay g) (hC : RC σ I J) : hf_rn 128 0 [some (.ref 0)] [] g I J = some (.inl (some (.int (nI (kA (nxS σ) (sC σ) (vaS σ).2.2 (sP σ))))), g, I, J) := by
  have hr := c_kept (lay_hx hL) (RC_alb hσ hL hC)
  rw [at_z (fun _ _ _ _ => rfl) (RC_vQ hσ hC), lZ_i, ← nI_iZ] at hr
  exact hr
theorem k_recipes (hσ : SOK σ) (hL : Lay g) (hC : RC σ I J) (a2 : a ≤ 1000) (b2 : b ≤ 1000) (d2 : d ≤ 5000) : SOK (sgq σ (up (up (up (sq σ) 7 a) 8 b) 9 d)) ∧ cOK (sgq σ (up (up (up (sq σ) 7 a) 8 b) 9 d)) g I J none (hf_rn 126 0 [some (.ref 0), some (.int (nI a)), some (.int (nI b)), some (.int (nI d))] [] g I J) := by
  have hP := sok_P hσ
  have hp : nI 0 ≤ nI a ∧ nI a ≤ nI 1000 := i_rg ⟨Nat.zero_le _, a2⟩ (by decide)
  have hp2 : nI 0 ≤ nI b ∧ nI b ≤ nI 1000 := i_rg ⟨Nat.zero_le _, b2⟩ (by decide)
  have hp3 : nI 0 ≤ nI d ∧ nI d ≤ nI 5000 := i_rg ⟨Nat.zero_le _, d2⟩ (by decide)
  have hσ2 : SOK (sgq σ (up (up (up (sq σ) 7 a) 8 b) 9 d)) := sok_q hσ (rng_up (rng_up (rng_up hσ.1 (by decide) (by decide) ⟨Nat.zero_le _, a2⟩) (by decide) (by decide) ⟨Nat.zero_le _, b2⟩) (by decide) (by decide) ⟨Nat.zero_le _, d2⟩) rfl rfl
  refine ⟨hσ2, ?_⟩
  have hr2 := (c_recipesF (i := nI a) (j := nI b) (x := nI d) (lay_hx hL) (RC_alb hσ hL hC) (lay_n hL)).trans (if_pos ⟨hp, hp2, hp3⟩)
  rw [nI_ll (by omega), nI_ll (by omega), nI_ll (by omega)] at hr2
  obtain ⟨⟨q0, q1, q2, q3, q4, q5, q6, q7, q8, q9, q10, q11, q12, q13, q14, q15, q16⟩, hg, hpp⟩ := hC
  have hx : nxS (sgq σ (up (up (up (sq σ) 7 a) 8 b) 9 d)) = nxS σ := nxS_q rfl rfl
  have k3 : ∀ r, r ≠ 13 → hf_u (hf_u (hf_u J 13 4 (lZ (a : Nat))) 13 5 (lZ (b : Nat))) 13 6 (lZ (d : Nat)) r = J r := fun r hr => (ku_ne hr).trans ((ku_ne hr).trans (ku_ne hr))
  have hRC := RC_gas (σ := sgq σ (up (up (up (sq σ) 7 a) 8 b) 9 d)) (nx2 := nxS σ) (Hs := fun i => J (34 + 17 * i + 12)) (Ga := fun i => J (34 + 17 * i + 16)) (I := I) (J := hf_u (hf_u (hf_u J 13 4 (lZ (a : Nat))) 13 5 (lZ (b : Nat))) 13 6 (lZ (d : Nat))) hσ2 (fun p k _ _ => by rw [hx]) (fun q h k hq hh hk => (hpp q hq).2.2.2.1 h k hh hk) ⟨q0, q1, q2, q3, q4, q5, q6, rfl, rfl, rfl, q10, q11, q12, q13, q14, q15, q16⟩ (fun s hs => by
    have h := hg s hs
    have hgr := gA_rng hP hs
    unfold RCg at h ⊢
    rw [k3 _ (by omega), k3 _ (by omega), k3 _ (by omega), k3 _ (by omega)]
    exact h) (fun p hp => by
    obtain ⟨h1, h2, h3, h4, h5, -⟩ := hpp p hp
    rw [k3 _ (by omega), k3 _ (by omega), k3 _ (by omega), hx]
    exact ⟨h1, h2, h3, h4, h5⟩)
  refine ⟨_, _, hr2, hRC, fun r hr => ⟨rfl, (gw_hi hr hP).trans (k3 r (by omega))⟩⟩
theorem k_seen (hσ : SOK σ) (hL : Lay g) (hC : RC σ I J) : cOK σ g I J (some (.int (nI (skA σ).1))) (hf_rn 131 0 [some (.ref 0)] [] g I J) := by
  obtain ⟨I2, J2, hl, c1, c2, c3, -⟩ := cls_look hσ hL hC
  have hr := c_seenF (lay_hx hL) (lay_sk hL) (lay_al hL) hl
  rw [c3] at hr
  exact cOK_1 c1 c2 hr
/-- what is told of one that is seen -/
def skW (σ : Sg) (k m : Nat) : Nat := if m = 0 then (skA σ).2.1 k else if m = 1 then (skA σ).2.2.1 k else if m = 3 then (skA σ).2.2.2.2.1 k else if spA σ k = true then 1 else 0
theorem k_sky (hσ : SOK σ) (hL : Lay g) (hC : RC σ I J) (hk : k < (skA σ).1) (hm : m = 0 ∨ m = 1 ∨ m = 3) : cOK σ g I J (some (.int (nI (skW σ k m)))) (hf_rn 132 0 [some (.ref 0), some (.int (nI k)), some (.int (nI m))] [] g I J) := by
  obtain ⟨i1, i2⟩ := skA_I hσ
  obtain ⟨I2, J2, hl, c1, c2, c3, c4⟩ := cls_look hσ hL hC
  obtain ⟨d1, d2, d3, d4, d5⟩ := c4 k hk
  have hr := c_skyF (m := m) (lay_hx hL) (lay_sk hL) (lay_al hL) (lay_n hL) hl c3 i1 hk (by omega)
  have e : (J2 (259 + 2 * m) k).toInt32 = nI (skW σ k m) := by
    unfold skW
    rcases hm with rfl | rfl | rfl
    · show (J2 259 k).toInt32 = _
      rw [d1, lZ_i, ← nI_iZ]; rfl
    · show (J2 261 k).toInt32 = _
      rw [d2, lZ_i, ← nI_iZ]; rfl
    · show (J2 265 k).toInt32 = _
      rw [d4, lZ_i, ← nI_iZ]; rfl
  rw [e] at hr
  exact cOK_1 c1 c2 hr
theorem k_sky4 (hσ : SOK σ) (hL : Lay g) (hC : RC σ I J) (hk : k < (skA σ).1) : cOK σ g I J (some (.int (nI (skW σ k 4)))) (hf_rn 132 0 [some (.ref 0), some (.int (nI k)), some (.int 4)] [] g I J) := by
  obtain ⟨i1, i2⟩ := skA_I hσ
  obtain ⟨I2, J2, hl, c1, c2, c3, c4⟩ := cls_look hσ hL hC
  have hr := c_skyF4 (lay_hx hL) (lay_sk hL) (lay_al hL) (lay_n hL) hl c3 i1 hk (fun j hj => by
    obtain ⟨-, h1, h2, -⟩ := i2 j hj
    rw [(c4 j hj).2.2.2.2, show (0 : Int64) = lZ 0 from rfl, lZ_lt (lRs (by omega) (by omega)) (lRs (by omega) (by omega))]
    omega)
  have q14 : J2 257 11 = lZ (sq σ 14 : Nat) := c1.1.2.2.2.2.2.2.2.2.2.2.2.2.2.2.1
  rw [q14] at hr
  obtain ⟨g1, g2⟩ := spc_z (S := J2 269) hσ (fun j hj => (c4 j hj).2.2.2.2) (fun j hj => (c4 j hj).2.2.2.1) (fun j hj => (c4 j hj).2.1)
  have g3 := spA_z hσ g2 hk
  have e : (gsF (skA σ).1 (J2 267) (J2 265) (J2 261) (lZ (sq σ 14 : Nat)) (J2 269) (skA σ).1 k).toInt32 = nI (skW σ k 4) := by
    unfold skW
    rw [if_neg (by decide), if_neg (by decide), if_neg (by decide), ← g3]
    rcases g1 k hk with u | u
    · rw [u]; rfl
    · rw [u]; rfl
  rw [e] at hr
  exact ⟨_, _, hr, RC_fr (sok_P hσ) c1 ⟨fun _ _ _ => rfl, fun a ha => kw_ne (by unfold scJ at ha; omega)⟩, fun a ha => ⟨(c2 a ha).1, (kw_ne (by omega)).trans (c2 a ha).2⟩⟩
theorem k_skyX1 (hσ : SOK σ) (hL : Lay g) (hC : RC σ I J) (hk : k < (skA σ).1) (hx : ¬ (nI 0 ≤ j ∧ j ≤ nI 4)) : cEX σ g I J 1 (hf_rn 132 0 [some (.ref 0), some (.int (nI k)), some (.int j)] [] g I J) := by
  obtain ⟨i1, i2⟩ := skA_I hσ
  obtain ⟨I2, J2, hl, c1, c2, c3, c4⟩ := cls_look hσ hL hC
  exact cEX_1 c1 c2 (c_skyX1 (lay_hx hL) (lay_sk hL) (lay_al hL) (lay_n hL) hl (by rw [c3]; exact i_in i1 hk) hx)
theorem k_skyX3 (hσ : SOK σ) (hL : Lay g) (hC : RC σ I J) (hi : ¬ (0 ≤ i ∧ i < nI (skA σ).1)) : cEX σ g I J 3 (hf_rn 132 0 [some (.ref 0), some (.int i), some (.int j)] [] g I J) := by
  obtain ⟨I2, J2, hl, c1, c2, c3, c4⟩ := cls_look hσ hL hC
  exact cEX_1 c1 c2 (c_skyX3 (lay_hx hL) (lay_sk hL) (lay_al hL) hl (by rw [c3]; exact hi))
theorem k_void (hσ : SOK σ) (hL : Lay g) (hC : RC σ I J) : ∃ vc : Nat → Nat, (∀ m, m < sN σ → vc m < 64) ∧ hf_rn 134 0 [some (.ref 0)] [] g I J = some (.inl (some (.int (hoF (tkL (sN σ) vc ^^^ -1) 64).2)), g, I, J) := by
  have hN := sok_N hσ
  have hv : ∀ m, m < sN σ → vcS σ m < 64 := fun m hm => by
    obtain ⟨h1, h2⟩ := now_ok hσ m hm
    have h1' : sX σ 12 m < 4096 := h1
    have h2' : sY σ 12 m < 4096 := h2
    unfold vcS
    omega
  refine ⟨vcS σ, hv, c_voidF (J := J) (lay_hx hL) (RC_c hC) hN.2 (vcS σ) (fun m hm => ⟨hv m hm, by
    obtain ⟨a1, a2, -, -⟩ := (RC_g hC).2 m hm
    obtain ⟨h1, h2⟩ := now_ok hσ m hm
    have h1' : sX σ 12 m < 4096 := h1
    have h2' : sY σ 12 m < 4096 := h2
    rw [a1, a2, show (8 : Int64) = lZ (8 : Nat) from rfl, show (512 : Int64) = lZ (512 : Nat) from rfl, lY_div (by omega) (by decide) (by decide), lY_div (by omega) (by decide) (by decide), lY_mul, lY_add, lZ_i, ← nI_iZ, Nat.mul_comm]
    rfl⟩)⟩
end
