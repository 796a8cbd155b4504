section
variable {σ : Sg} {R : R4} {g : hf_G} {I I2 : hf_I} {J J2 : hf_J} {s k c a b m p G S t n : Nat} {i j : Int32} {w w2 : Nat → Nat}
theorem cs_b (hc2 : c ≤ 64) : csN (fun _ => 1) R t c ≤ 64 := Nat.le_trans csN_n hc2
theorem csN_0 (h : csN (fun _ => 1) R t c = 0) (w : Nat → Nat) (hw : ∀ m, w m ≤ 1023) : csN w R t c = 0 := by
  have := csN_le (R := R) (t := t) (n := c) (fun m _ => hw m)
  rw [h] at this
  omega
theorem fcX_c (hGJ : J 238 0 = lZ G) (hSJ : J 238 1 = lZ S) (hG : G ≤ 10000) (hS : 10 ≤ S ∧ S ≤ 1000) (h : RWc J c R) (hR : R4ok c R) (hc2 : c ≤ 64) (hk : k < c) : bclX J 2 c k (ceN R) = fcX G S R c k := by
  unfold bclX fcX nsmX
  rw [hGJ, hSJ]
  refine it_eq (it_cong fun m s hm => ?_) fun t s ht => ?_
  · rw [neL_z h hR hk hm, prX_z hG hS h hR hk hm]
  · have z1 := cs1_z (t := t) (f := fun _ => 1) (F := zeR J 244 16) (w := fun _ => 1) h hR hk (if_pos ht) (fun _ _ => rfl) c (Nat.le_refl _)
    have z2 := cs1_z (t := t) (f := fun m => rmL (J 4 m) 1024) (F := zeR J 246 16) (w := fun m => R.1 m % 1024) h hR hk (if_pos ht) (fun m hm => by
      obtain ⟨v1, -, -, -⟩ := h m hm
      obtain ⟨r1, -⟩ := hR m hm
      unfold rmL
      rw [v1, lZ_d r1, show (1024 : Int64) = lZ 1024 from rfl, lZ_mul, lZ_sub]
      congr 1
      omega) c (Nat.le_refl _)
    have z3 := cs1_z (t := t) (f := fun m => rmL (J 6 m) 1024) (F := zeR J 248 16) (w := fun m => R.2.1 m % 1024) h hR hk (if_pos ht) (fun m hm => by
      obtain ⟨-, v1, -, -⟩ := h m hm
      obtain ⟨-, r1⟩ := hR m hm
      unfold rmL
      rw [v1, lZ_d r1, show (1024 : Int64) = lZ 1024 from rfl, lZ_mul, lZ_sub]
      congr 1
      omega) c (Nat.le_refl _)
    unfold pocX
    show s + cs1 c (neL (J 4) (J 6) k) (ceN R) (fun _ => 1) (zeR J 244 16) t * plX (lZ G) (lZ S) (wayL (J 4 k) (pcX t (cs1 c (neL (J 4) (J 6) k) (ceN R) (fun _ => 1) (zeR J 244 16) t) (cs1 c (neL (J 4) (J 6) k) (ceN R) (fun m => rmL (J 4 m) 1024) (zeR J 246 16) t))) (wayL (J 6 k) (pcY t (cs1 c (neL (J 4) (J 6) k) (ceN R) (fun _ => 1) (zeR J 244 16) t) (cs1 c (neL (J 4) (J 6) k) (ceN R) (fun m => rmL (J 6 m) 1024) (zeR J 248 16) t))) = _
    rw [z1, z2, z3]
    by_cases c1 : nbB (ceN R k) t = true
    · rw [if_pos c1, Int64.zero_mul, if_pos c1, Int64.add_zero]
    · rw [if_neg c1, if_neg c1, if_neg c1, if_neg c1]
      by_cases c2 : csN (fun _ => 1) R t c = 0
      · rw [if_pos c2, c2, show lZ ((0 : Nat) : Int) = 0 from rfl, Int64.zero_mul]
      · obtain ⟨p1, p2, -, -, -⟩ := pcX_z (R := R) hc2 ht c2
        obtain ⟨m1, m2, -, -⟩ := mn_lt (R := R) ht c2
        obtain ⟨v1, v2, -, -⟩ := h k hk
        obtain ⟨r1, r2⟩ := hR k hk
        rw [if_neg c2, p1, p2, v1, v2, wayL_z ⟨by omega, by omega⟩ ⟨by omega, by omega⟩, wayL_z ⟨by omega, by omega⟩ ⟨by omega, by omega⟩]
        unfold plX wkL fvX
        rw [(pl_z hG hS wy2 wy2 wy2).1, Int64.mul_comm]
theorem fcX_m (hGJ : I 270 3 = nI G) (hSJ : I 270 4 = nI S) (hG : G ≤ 10000) (hS : 10 ≤ S ∧ S ≤ 1000) (h : RWm I J c R) (hR : R4ok c R) (hc2 : c ≤ 64) (hk : k < c) : fcAX I k c = fcX G S R c k := by
  unfold fcAX fcX npXM
  refine it_eq (it_cong fun m s hm => ?_) fun t s ht => ?_
  · have hp := pxM_z hGJ hSJ hG hS h hR hk hm
    rw [ceI_z h hR hk, ceI_z h hR hm, hp.1]
    by_cases e : m = k
    · subst e
      rw [if_pos rfl]
      have e0 : pvX G S R m m = 0 := by
        unfold pvX plZ
        rw [show wyZ (R.1 m) (R.1 m) = 0 by unfold wyZ; omega, Int.mul_zero, Int.zero_tdiv]
        rfl
      rw [e0, Int64.add_zero]
      split <;> rfl
    · rw [if_neg e]
      rfl
  · unfold fcSX
    rw [ceI_z h hR hk]
    by_cases c1 : nbB (ceN R k) t = true
    · rw [if_pos c1, if_pos (show inN (nI (ceN R k)) (nI t) = true from c1), Int64.add_zero]
    · rw [if_neg c1, if_neg (show ¬ inN (nI (ceN R k)) (nI t) = true from c1)]
      congr 1
      have f := fpX_z h hR ht c (Nat.le_refl _)
      unfold fplX fwX fwY
      rw [f]
      dsimp only
      have hb := cs_b (R := R) (t := t) hc2
      by_cases c2 : csN (fun _ => 1) R t c = 0
      · rw [if_pos c2, if_pos (by rw [c2]; rfl)]
      · obtain ⟨-, -, p1, p2, p3⟩ := pcX_z (R := R) hc2 ht c2
        obtain ⟨m1, m2, -, -⟩ := mn_lt (R := R) ht c2
        obtain ⟨v1, v2, -, -⟩ := h k hk
        obtain ⟨r1, r2⟩ := hR k hk
        rw [if_neg c2, if_neg p3, p1, p2, v1, v2, hGJ, hSJ, nI_iZ (R.1 k), nI_iZ (R.2.1 k), nI_iZ (mnX R t c), nI_iZ (mnY R t c), wyI_z ⟨by omega, by omega⟩ ⟨by omega, by omega⟩, wyI_z ⟨by omega, by omega⟩ ⟨by omega, by omega⟩, (pl_z hG hS wy2 wy2 wy2).2.1, nI_ll (by omega)]
        have r3 := (pl_z (G := G) (S := S) (z := wyZ (R.1 k) (mnX R t c)) (x := wyZ (R.1 k) (mnX R t c)) (y := wyZ (R.2.1 k) (mnY R t c)) hG hS wy2 wy2 wy2).2.2.1
        rw [iZ_l ⟨by omega, by omega⟩]
        rfl
theorem fcY_c (hGJ : J 238 0 = lZ G) (hSJ : J 238 1 = lZ S) (hG : G ≤ 10000) (hS : 10 ≤ S ∧ S ≤ 1000) (h : RWc J c R) (hR : R4ok c R) (hc2 : c ≤ 64) (hk : k < c) : bclY J 2 c k (ceN R) = fcY G S R c k := by
  unfold bclY fcY nsmY
  rw [hGJ, hSJ]
  refine it_eq (it_cong fun m s hm => ?_) fun t s ht => ?_
  · rw [neL_z h hR hk hm, prY_z hG hS h hR hk hm]
  · have z1 := cs1_z (t := t) (f := fun _ => 1) (F := zeR J 244 16) (w := fun _ => 1) h hR hk (if_pos ht) (fun _ _ => rfl) c (Nat.le_refl _)
    have z2 := cs1_z (t := t) (f := fun m => rmL (J 4 m) 1024) (F := zeR J 246 16) (w := fun m => R.1 m % 1024) h hR hk (if_pos ht) (fun m hm => by
      obtain ⟨v1, -, -, -⟩ := h m hm
      obtain ⟨r1, -⟩ := hR m hm
      unfold rmL
      rw [v1, lZ_d r1, show (1024 : Int64) = lZ 1024 from rfl, lZ_mul, lZ_sub]
      congr 1
      omega) c (Nat.le_refl _)
    have z3 := cs1_z (t := t) (f := fun m => rmL (J 6 m) 1024) (F := zeR J 248 16) (w := fun m => R.2.1 m % 1024) h hR hk (if_pos ht) (fun m hm => by
      obtain ⟨-, v1, -, -⟩ := h m hm
      obtain ⟨-, r1⟩ := hR m hm
      unfold rmL
      rw [v1, lZ_d r1, show (1024 : Int64) = lZ 1024 from rfl, lZ_mul, lZ_sub]
      congr 1
      omega) c (Nat.le_refl _)
    unfold pocY
    show s + cs1 c (neL (J 4) (J 6) k) (ceN R) (fun _ => 1) (zeR J 244 16) t * plY (lZ G) (lZ S) (wayL (J 4 k) (pcX t (cs1 c (neL (J 4) (J 6) k) (ceN R) (fun _ => 1) (zeR J 244 16) t) (cs1 c (neL (J 4) (J 6) k) (ceN R) (fun m => rmL (J 4 m) 1024) (zeR J 246 16) t))) (wayL (J 6 k) (pcY t (cs1 c (neL (J 4) (J 6) k) (ceN R) (fun _ => 1) (zeR J 244 16) t) (cs1 c (neL (J 4) (J 6) k) (ceN R) (fun m => rmL (J 6 m) 1024) (zeR J 248 16) t))) = _
    rw [z1, z2, z3]
    by_cases c1 : nbB (ceN R k) t = true
    · rw [if_pos c1, Int64.zero_mul, if_pos c1, Int64.add_zero]
    · rw [if_neg c1, if_neg c1, if_neg c1, if_neg c1]
      by_cases c2 : csN (fun _ => 1) R t c = 0
      · rw [if_pos c2, c2, show lZ ((0 : Nat) : Int) = 0 from rfl, Int64.zero_mul]
      · obtain ⟨p1, p2, -, -, -⟩ := pcX_z (R := R) hc2 ht c2
        obtain ⟨m1, m2, -, -⟩ := mn_lt (R := R) ht c2
        obtain ⟨v1, v2, -, -⟩ := h k hk
        obtain ⟨r1, r2⟩ := hR k hk
        rw [if_neg c2, p1, p2, v1, v2, wayL_z ⟨by omega, by omega⟩ ⟨by omega, by omega⟩, wayL_z ⟨by omega, by omega⟩ ⟨by omega, by omega⟩]
        unfold plY wkL fvY
        rw [(pl_z hG hS wy2 wy2 wy2).1, Int64.mul_comm]
theorem fcY_m (hGJ : I 270 3 = nI G) (hSJ : I 270 4 = nI S) (hG : G ≤ 10000) (hS : 10 ≤ S ∧ S ≤ 1000) (h : RWm I J c R) (hR : R4ok c R) (hc2 : c ≤ 64) (hk : k < c) : fcAY I k c = fcY G S R c k := by
  unfold fcAY fcY npYM
  refine it_eq (it_cong fun m s hm => ?_) fun t s ht => ?_
  · have hp := pxM_z hGJ hSJ hG hS h hR hk hm
    rw [ceI_z h hR hk, ceI_z h hR hm, hp.2]
    by_cases e : m = k
    · subst e
      rw [if_pos rfl]
      have e0 : pvY G S R m m = 0 := by
        unfold pvY plZ
        rw [show wyZ (R.2.1 m) (R.2.1 m) = 0 by unfold wyZ; omega, Int.mul_zero, Int.zero_tdiv]
        rfl
      rw [e0, Int64.add_zero]
      split <;> rfl
    · rw [if_neg e]
      rfl
  · unfold fcSY
    rw [ceI_z h hR hk]
    by_cases c1 : nbB (ceN R k) t = true
    · rw [if_pos c1, if_pos (show inN (nI (ceN R k)) (nI t) = true from c1), Int64.add_zero]
    · rw [if_neg c1, if_neg (show ¬ inN (nI (ceN R k)) (nI t) = true from c1)]
      congr 1
      have f := fpX_z h hR ht c (Nat.le_refl _)
      unfold fplY fwX fwY
      rw [f]
      dsimp only
      have hb := cs_b (R := R) (t := t) hc2
      by_cases c2 : csN (fun _ => 1) R t c = 0
      · rw [if_pos c2, if_pos (by rw [c2]; rfl)]
      · obtain ⟨-, -, p1, p2, p3⟩ := pcX_z (R := R) hc2 ht c2
        obtain ⟨m1, m2, -, -⟩ := mn_lt (R := R) ht c2
        obtain ⟨v1, v2, -, -⟩ := h k hk
        obtain ⟨r1, r2⟩ := hR k hk
        rw [if_neg c2, if_neg p3, p1, p2, v1, v2, hGJ, hSJ, nI_iZ (R.1 k), nI_iZ (R.2.1 k), nI_iZ (mnX R t c), nI_iZ (mnY R t c), wyI_z ⟨by omega, by omega⟩ ⟨by omega, by omega⟩, wyI_z ⟨by omega, by omega⟩ ⟨by omega, by omega⟩, (pl_z hG hS wy2 wy2 wy2).2.1, nI_ll (by omega)]
        have r3 := (pl_z (G := G) (S := S) (z := wyZ (R.2.1 k) (mnY R t c)) (x := wyZ (R.1 k) (mnX R t c)) (y := wyZ (R.2.1 k) (mnY R t c)) hG hS wy2 wy2 wy2).2.2.1
        rw [iZ_l ⟨by omega, by omega⟩]
        rfl
theorem far_nz (hSJ : I 270 4 = nI S) (hS : 10 ≤ S ∧ S ≤ 1000) (h : RWm I J c R) (hR : R4ok c R) (hc2 : c ≤ 64) (hk : k < c) (ht : t < 16) (hz : ¬ (fpX I t c).2.2 = 0) : ¬ sqI (fwX I k t c) (fwY I k t c) + I 270 4 * I 270 4 = 0 := by
  have f := fpX_z h hR ht c (Nat.le_refl _)
  unfold fwX fwY
  rw [f] at hz ⊢
  dsimp only at hz ⊢
  have c2 : ¬ csN (fun _ => 1) R t c = 0 := fun e => hz (by rw [e]; rfl)
  obtain ⟨-, -, p1, p2, p3⟩ := pcX_z (R := R) hc2 ht c2
  obtain ⟨m1, m2, -, -⟩ := mn_lt (R := R) ht c2
  obtain ⟨v1, v2, -, -⟩ := h k hk
  obtain ⟨r1, r2⟩ := hR k hk
  rw [p1, p2, v1, v2, hSJ, nI_iZ (R.1 k), nI_iZ (R.2.1 k), nI_iZ (mnX R t c), nI_iZ (mnY R t c), wyI_z ⟨by omega, by omega⟩ ⟨by omega, by omega⟩, wyI_z ⟨by omega, by omega⟩ ⟨by omega, by omega⟩, sqI_z, nI_iZ, iZ_mul, iZ_add, show (0 : Int32) = iZ 0 from rfl]
  have r := (pl_z (G := 0) (S := S) (z := 0) (x := wyZ (R.1 k) (mnX R t c)) (y := wyZ (R.2.1 k) (mnY R t c)) (by decide) hS ⟨by decide, by decide⟩ wy2 wy2).2.2.2
  rw [iZ_eq ⟨by omega, by omega⟩ ⟨by decide, by decide⟩]
  omega
theorem agr_forceCX (hσ : SOK σ) : agr 2 cdI3 σ (fun g I J => hf_rn 115 0 [some (.ref 0), some (.int i), some (.int 1), some (.int 1)] [] g I J) (fun g I J => hf_rn 177 0 [some (.ref 270), some (.int i), some (.int 1), some (.int 1), none, none, none] [] g I J) := by
  have hN := sok_N hσ
  rcases i_lt (sN σ) (by omega) i with ⟨k, hk, rfl⟩ | hi
  · refine Or.inl ⟨σ, some (.long (fcX (sq σ 3) (sq σ 4) (nowR σ) (sN σ) k)), hσ, ⟨_, rfl⟩, fun g I J hL hW hC => ?_, fun g I J hL hM => ?_⟩
    · have hr := c_forceCX (J := J) (lay_hx hL) (lay_pu hL) (RC_c hC) hN.2 hk (ceN (nowR σ)) (fun m hm => ⟨ceN_lt (now_ok hσ) hm, clL_z (RC_rw hC) (now_ok hσ) hm⟩)
      rw [fcX_c (RC_pl hC).1 (RC_pl hC).2 (sok_G hσ) (sok_S hσ) (RC_rw hC) (now_ok hσ) hN.2 hk] at hr
      exact ⟨_, _, hr, RC_fr (sok_P hσ) hC ⟨fun _ _ _ => rfl, fun r hr => w3_n (by unfold scJ at hr; omega) (by unfold scJ at hr; omega) (by unfold scJ at hr; omega)⟩, kCC (fun _ _ => rfl) (fun r hr => w3_n (by omega) (by omega) (by omega))⟩
    · have hr := m_forceCX (J := J) (lay_md hL) (RM_c hM) hN.2 hk (nzM_z (hM.1 4 (by decide)) (sok_S hσ) (RM_rw hM) (now_ok hσ)) (fun cl hcl hz => far_nz (hM.1 4 (by decide)) (sok_S hσ) (RM_rw hM) (now_ok hσ) hN.2 hk hcl hz)
      rw [fcX_m (hM.1 3 (by decide)) (hM.1 4 (by decide)) (sok_G hσ) (sok_S hσ) (RM_rw hM) (now_ok hσ) hN.2 hk] at hr
      exact mOK_th hσ hM hr
  · exact Or.inr ⟨3, some (.long 0), Or.inr (Or.inr rfl), (by decide : ¬ cdI3 3 = 0), ⟨_, rfl⟩, fun g I J hL hW hC => cEX_0 hC (c_forceX (lay_hx hL) (by rw [RC_c hC]; exact hi)), fun g I J hL hM => mOK_th hσ hM (m_forceX (lay_md hL) (RM_c hM) hN.2 hi)⟩
theorem agr_forceCY (hσ : SOK σ) : agr 2 cdI3 σ (fun g I J => hf_rn 115 0 [some (.ref 0), some (.int i), some (.int 0), some (.int 1)] [] g I J) (fun g I J => hf_rn 177 0 [some (.ref 270), some (.int i), some (.int 0), some (.int 1), none, none, none] [] g I J) := by
  have hN := sok_N hσ
  rcases i_lt (sN σ) (by omega) i with ⟨k, hk, rfl⟩ | hi
  · refine Or.inl ⟨σ, some (.long (fcY (sq σ 3) (sq σ 4) (nowR σ) (sN σ) k)), hσ, ⟨_, rfl⟩, fun g I J hL hW hC => ?_, fun g I J hL hM => ?_⟩
    · have hr := c_forceCY (J := J) (lay_hx hL) (lay_pu hL) (RC_c hC) hN.2 hk (ceN (nowR σ)) (fun m hm => ⟨ceN_lt (now_ok hσ) hm, clL_z (RC_rw hC) (now_ok hσ) hm⟩)
      rw [fcY_c (RC_pl hC).1 (RC_pl hC).2 (sok_G hσ) (sok_S hσ) (RC_rw hC) (now_ok hσ) hN.2 hk] at hr
      exact ⟨_, _, hr, RC_fr (sok_P hσ) hC ⟨fun _ _ _ => rfl, fun r hr => w3_n (by unfold scJ at hr; omega) (by unfold scJ at hr; omega) (by unfold scJ at hr; omega)⟩, kCC (fun _ _ => rfl) (fun r hr => w3_n (by omega) (by omega) (by omega))⟩
    · have hr := m_forceCY (J := J) (lay_md hL) (RM_c hM) hN.2 hk (nzM_z (hM.1 4 (by decide)) (sok_S hσ) (RM_rw hM) (now_ok hσ)) (fun cl hcl hz => far_nz (hM.1 4 (by decide)) (sok_S hσ) (RM_rw hM) (now_ok hσ) hN.2 hk hcl hz)
      rw [fcY_m (hM.1 3 (by decide)) (hM.1 4 (by decide)) (sok_G hσ) (sok_S hσ) (RM_rw hM) (now_ok hσ) hN.2 hk] at hr
      exact mOK_th hσ hM hr
  · exact Or.inr ⟨3, some (.long 0), Or.inr (Or.inr rfl), (by decide : ¬ cdI3 3 = 0), ⟨_, rfl⟩, fun g I J hL hW hC => cEX_0 hC (c_forceX (lay_hx hL) (by rw [RC_c hC]; exact hi)), fun g I J hL hM => mOK_th hσ hM (m_forceX (lay_md hL) (RM_c hM) hN.2 hi)⟩
end
