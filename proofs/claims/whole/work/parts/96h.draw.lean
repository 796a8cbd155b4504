/-! DRAW -/
def amZ (w D q : Int) : Int := if q % 2 = 1 then -(w / D) else w / D
def phZ (q : Int) : Int := q / 2 % 16
def dzS (s : Nat) (w : Int) (p : Int × R4) (k : Int × Int) : Int × R4 := ((1103515245 * p.1 + 12345) % 2147483648, ripS s k.1 k.2 (amZ w (k.1 * k.1 + k.2 * k.2) ((1103515245 * p.1 + 12345) % 2147483648 / 65536)) (phZ ((1103515245 * p.1 + 12345) % 2147483648 / 65536)) p.2)
def dzX : List (Int × Int) := [(0, 1), (0, 2), (1, -2), (1, -1), (1, 0), (1, 1), (1, 2), (2, -2), (2, -1), (2, 0), (2, 1), (2, 2)]
def dzK (k : Int × Int) : Prop := (-3 ≤ k.1 ∧ k.1 ≤ 3) ∧ (-3 ≤ k.2 ∧ k.2 ≤ 3) ∧ 1 ≤ k.1 * k.1 + k.2 * k.2 ∧ k.1 * k.1 + k.2 * k.2 ≤ 8
theorem dzX_k : ∀ k, k ∈ dzX → dzK k := by unfold dzK; decide
theorem dzX_m : drX = dzX.map (fun k => (iZ k.1, iZ k.2)) := by decide +kernel
section
variable {σ : Sg} {f : Nat → Nat} {R : R4} {g : hf_G} {I I2 : hf_I} {J J2 : hf_J} {s k p c n t : Nat} {a b am ph z w D x q : Int} {i j y : Int32} {v : Int64}
theorem drL_z (h : 0 ≤ x ∧ x < 2147483648) : drL (lZ x) = lZ ((1103515245 * x + 12345) % 2147483648) := by
  unfold drL
  rw [show (1103515245 : Int64) = lZ 1103515245 from rfl, show (12345 : Int64) = lZ 12345 from rfl, show (2147483648 : Int64) = lZ 2147483648 from rfl, lZ_mul, lZ_add, lZ_div ⟨by omega, by omega⟩ ⟨by decide, by decide⟩ (by decide), td_pos (by omega), lZ_mul, lZ_sub]
  congr 1
  omega
theorem drQ_z (h : 0 ≤ x ∧ x < 2147483648) : lZ x / 65536 = lZ (x / 65536) := by
  rw [show (65536 : Int64) = lZ 65536 from rfl, lZ_div (lRs (by omega) (by omega)) (lRs (by decide) (by decide)) (by decide), td_pos h.1]
theorem drPh_z (h : 0 ≤ x ∧ x < 2147483648) : drPh (lZ x) = lZ (phZ (x / 65536)) ∧ mdH (lZ x) = iZ (phZ (x / 65536)) ∧ 0 ≤ phZ (x / 65536) ∧ phZ (x / 65536) ≤ 15 := by
  unfold drPh mdH phZ
  rw [drQ_z h]
  have hq : 0 ≤ x / 65536 ∧ x / 65536 < 32768 := by omega
  generalize x / 65536 = q at hq
  rw [lZ_i, show (2 : Int64) = lZ 2 from rfl, show (16 : Int64) = lZ 16 from rfl, show (2 : Int32) = iZ 2 from rfl, show (16 : Int32) = iZ 16 from rfl]
  rw [lZ_div (lRs (by omega) (by omega)) (lRs (by decide) (by decide)) (by decide), td_pos (by omega), lZ_div (lRs (by omega) (by omega)) (lRs (by decide) (by decide)) (by decide), td_pos (by omega), lZ_mul, lZ_sub]
  rw [iZ_div ⟨by omega, by omega⟩ ⟨by decide, by decide⟩ (by decide), td_pos (by omega), iZ_div ⟨by omega, by omega⟩ ⟨by decide, by decide⟩ (by decide), td_pos (by omega), iZ_mul, iZ_sub]
  refine ⟨?_, ?_, by omega, by omega⟩
  · congr 1; omega
  · congr 1; omega
theorem drAm_z (h : 0 ≤ x ∧ x < 2147483648) (hw : 0 ≤ w ∧ w ≤ 1000) (hD : a * a + b * b = D) (hD2 : 1 ≤ D ∧ D ≤ 8) : drAm (iZ w) (iZ a) (iZ b) (lZ x) = lZ (amZ w D (x / 65536)) ∧ mdA (iZ w) (iZ a) (iZ b) (lZ x) = iZ (amZ w D (x / 65536)) ∧ -1000 ≤ amZ w D (x / 65536) ∧ amZ w D (x / 65536) ≤ 1000 := by
  unfold drAm mdA sqI by0 amZ
  rw [drQ_z h, iZ_mul, iZ_mul, iZ_add, hD, iZ_l ⟨by omega, by omega⟩, iZ_l ⟨by omega, by omega⟩]
  have hq : 0 ≤ x / 65536 ∧ x / 65536 < 32768 := by omega
  generalize x / 65536 = q at hq
  rw [lZ_i, show (2 : Int64) = lZ 2 from rfl, show (2 : Int32) = iZ 2 from rfl, show (1 : Int64) = lZ 1 from rfl, show (1 : Int32) = iZ 1 from rfl, show (0 : Int64) = lZ 0 from rfl]
  rw [lZ_div (lRs (by omega) (by omega)) (lRs (by decide) (by decide)) (by decide), td_pos (by omega), lZ_mul, lZ_sub, iZ_div ⟨by omega, by omega⟩ ⟨by decide, by decide⟩ (by decide), td_pos (by omega), iZ_mul, iZ_sub]
  have k1 := lZ_eq (a := q - q / 2 * 2) (b := 1) (lRs (by omega) (by omega)) (lRs (by decide) (by decide))
  have k2 := iZ_eq (a := q - q / 2 * 2) (b := 1) ⟨by omega, by omega⟩ ⟨by decide, by decide⟩
  have k3 := lZ_eq (a := D) (b := 0) (lRs (by omega) (by omega)) (lRs (by decide) (by decide))
  rw [if_neg (fun e => (by omega : ¬ D = 0) (k3.mp e))]
  rw [lZ_div (lRs (by omega) (by omega)) (lRs (by omega) (by omega)) (by omega), td_pos (by omega), iZ_div ⟨by omega, by omega⟩ ⟨by omega, by omega⟩ (by omega), td_pos (by omega), lZ_neg, iZ_neg]
  have hwD : 0 ≤ w / D ∧ w / D ≤ 1000 := ⟨Int.ediv_nonneg (by omega) (by omega), by
    have := Int.ediv_le_self D hw.1
    omega⟩
  by_cases c : q % 2 = 1
  · rw [if_pos c, if_pos (k1.mpr (by omega)), if_pos (k2.mpr (by omega))]
    exact ⟨rfl, rfl, by omega, by omega⟩
  · rw [if_neg c, if_neg (fun e => (by omega : ¬ q - q / 2 * 2 = 1) (k1.mp e)), if_neg (fun e => (by omega : ¬ q - q / 2 * 2 = 1) (k2.mp e))]
    exact ⟨rfl, rfl, by omega, by omega⟩
theorem dz_rng : 0 ≤ (dzS s w (z, R) (a, b)).1 ∧ (dzS s w (z, R) (a, b)).1 < 2147483648 := ⟨Int.emod_nonneg _ (by decide), Int.emod_lt_of_pos _ (by decide)⟩
theorem draw_c (hs : 2 ≤ s ∧ s ≤ 8) (hc : c = s * s) (hw : 0 ≤ w ∧ w ≤ 1000) : ∀ (l : List (Int × Int)), (∀ k, k ∈ l → dzK k) → ∀ (z : Int) (R : R4) (J : hf_J), 0 ≤ z ∧ z < 2147483648 → RWc J c R →
    ((l.map (fun k => (iZ k.1, iZ k.2))).foldl (fun p k => drT c s (iZ w) k.1 k.2 p) (lZ z, J)).1 = lZ (l.foldl (dzS s w) (z, R)).1 ∧ RWc ((l.map (fun k => (iZ k.1, iZ k.2))).foldl (fun p k => drT c s (iZ w) k.1 k.2 p) (lZ z, J)).2 c (l.foldl (dzS s w) (z, R)).2 ∧
    ∀ p, p ≠ 4 ∧ p ≠ 6 ∧ p ≠ 8 ∧ p ≠ 10 → ((l.map (fun k => (iZ k.1, iZ k.2))).foldl (fun p k => drT c s (iZ w) k.1 k.2 p) (lZ z, J)).2 p = J p
  | [], _, z, R, J, hz, h => ⟨rfl, h, fun _ _ => rfl⟩
  | (a, b) :: l, hl, z, R, J, hz, h => by
    obtain ⟨ha, hb, d1, d2⟩ := hl (a, b) List.mem_cons_self
    have hx : 0 ≤ (1103515245 * z + 12345) % 2147483648 ∧ (1103515245 * z + 12345) % 2147483648 < 2147483648 := ⟨Int.emod_nonneg _ (by decide), Int.emod_lt_of_pos _ (by decide)⟩
    obtain ⟨p1, -, p3, p4⟩ := drPh_z hx
    obtain ⟨m1, -, m3, m4⟩ := drAm_z (w := w) hx hw (a := a) (b := b) rfl ⟨d1, d2⟩
    have e : drT c s (iZ w) (iZ a) (iZ b) (lZ z, J) = (lZ ((1103515245 * z + 12345) % 2147483648), rpJ J c s (lZ a) (lZ b) (lZ (amZ w (a * a + b * b) ((1103515245 * z + 12345) % 2147483648 / 65536))) (lZ (phZ ((1103515245 * z + 12345) % 2147483648 / 65536)))) := by
      unfold drT
      dsimp only
      rw [drL_z hz, m1, p1, iZ_l ⟨by have := ha.1; simp only at this; omega, by have := ha.2; simp only at this; omega⟩, iZ_l ⟨by have := hb.1; simp only at this; omega, by have := hb.2; simp only at this; omega⟩]
    have ih := draw_c hs hc hw l (fun k hk => hl k (List.mem_cons_of_mem _ hk)) ((1103515245 * z + 12345) % 2147483648) (ripS s a b (amZ w (a * a + b * b) ((1103515245 * z + 12345) % 2147483648 / 65536)) (phZ ((1103515245 * z + 12345) % 2147483648 / 65536)) R) _ hx (rip_c h hs hc ha hb ⟨m3, m4⟩ ⟨p3, p4⟩)
    rw [List.map_cons, List.foldl_cons, List.foldl_cons]
    show (List.foldl _ (drT c s (iZ w) (iZ a) (iZ b) (lZ z, J)) _).1 = _ ∧ RWc (List.foldl _ (drT c s (iZ w) (iZ a) (iZ b) (lZ z, J)) _).2 c _ ∧ ∀ p, _ → (List.foldl _ (drT c s (iZ w) (iZ a) (iZ b) (lZ z, J)) _).2 p = J p
    rw [e]
    exact ⟨ih.1, ih.2.1, fun p hp => (ih.2.2 p hp).trans (rpJ_n hp)⟩
theorem draw_m (hs : 2 ≤ s ∧ s ≤ 8) (hc : c = s * s) (hw : 0 ≤ w ∧ w ≤ 1000) : ∀ (l : List (Int × Int)), (∀ k, k ∈ l → dzK k) → ∀ (z : Int) (R : R4) (I : hf_I) (J : hf_J), 0 ≤ z ∧ z < 2147483648 → RWm I J c R → R4ok c R →
    ∃ (I2 : hf_I) (J2 : hf_J), (l.map (fun k => (iZ k.1, iZ k.2))).foldl (fun p k => mdT s c (iZ w) k.1 k.2 p) (lZ z, I, J) = (lZ (l.foldl (dzS s w) (z, R)).1, I2, J2) ∧ RWm I2 J2 c (l.foldl (dzS s w) (z, R)).2 ∧ R4ok c (l.foldl (dzS s w) (z, R)).2 ∧
    (∀ p, p ≠ 271 ∧ p ≠ 272 → I2 p = I p) ∧ (∀ p, p ≠ 273 ∧ p ≠ 274 → J2 p = J p) ∧ ∀ k, k < 768 → I2 271 k = I 271 k ∧ I2 272 k = I 272 k ∧ J2 273 k = J 273 k ∧ J2 274 k = J 274 k
  | [], _, z, R, I, J, hz, h, hR => ⟨I, J, rfl, h, hR, fun _ _ => rfl, fun _ _ => rfl, fun _ _ => ⟨rfl, rfl, rfl, rfl⟩⟩
  | (a, b) :: l, hl, z, R, I, J, hz, h, hR => by
    obtain ⟨ha, hb, d1, d2⟩ := hl (a, b) List.mem_cons_self
    have hx : 0 ≤ (1103515245 * z + 12345) % 2147483648 ∧ (1103515245 * z + 12345) % 2147483648 < 2147483648 := ⟨Int.emod_nonneg _ (by decide), Int.emod_lt_of_pos _ (by decide)⟩
    obtain ⟨-, p1, p3, p4⟩ := drPh_z hx
    obtain ⟨-, m1, m3, m4⟩ := drAm_z (w := w) hx hw (a := a) (b := b) rfl ⟨d1, d2⟩
    have e : mdT s c (iZ w) (iZ a) (iZ b) (lZ z, I, J) = (lZ ((1103515245 * z + 12345) % 2147483648), tgI I s c (iZ a) (iZ b) (iZ (amZ w (a * a + b * b) ((1103515245 * z + 12345) % 2147483648 / 65536))) (iZ (phZ ((1103515245 * z + 12345) % 2147483648 / 65536))), tgJ J s c (iZ a) (iZ b) (iZ (amZ w (a * a + b * b) ((1103515245 * z + 12345) % 2147483648 / 65536))) (iZ (phZ ((1103515245 * z + 12345) % 2147483648 / 65536)))) := by
      unfold mdT
      dsimp only
      rw [drL_z hz, m1, p1]
    obtain ⟨I2, J2, i1, i2, i3, i4, i5, i6⟩ := draw_m hs hc hw l (fun k hk => hl k (List.mem_cons_of_mem _ hk)) ((1103515245 * z + 12345) % 2147483648) (ripS s a b (amZ w (a * a + b * b) ((1103515245 * z + 12345) % 2147483648 / 65536)) (phZ ((1103515245 * z + 12345) % 2147483648 / 65536)) R) _ _ hx (rip_m h hR hs hc ha hb ⟨m3, m4⟩ ⟨p3, p4⟩) ripS_ok
    refine ⟨I2, J2, ?_, i2, i3, fun p hp => (i4 p hp).trans (tgI_n hp), fun p hp => (i5 p hp).trans (tgJ_n hp), fun k hk => ?_⟩
    · rw [List.map_cons, List.foldl_cons, List.foldl_cons]
      show List.foldl _ (mdT s c (iZ w) (iZ a) (iZ b) (lZ z, I, J)) _ = _
      rw [e]
      exact i1
    · obtain ⟨t1, t2, t3, t4, -⟩ := tg_b (I := I) (J := J) (n := s) (c := c) (kx := iZ a) (ky := iZ b) (ki := iZ (amZ w (a * a + b * b) ((1103515245 * z + 12345) % 2147483648 / 65536))) (kj := iZ (phZ ((1103515245 * z + 12345) % 2147483648 / 65536))) hk
      obtain ⟨j1, j2, j3, j4⟩ := i6 k hk
      exact ⟨j1.trans t1, j2.trans t2, j3.trans t3, j4.trans t4⟩
theorem agr_draw (hσ : SOK σ) : agr 1 cdAS σ (fun g I J => hf_rn 112 0 [some (.ref 0), some (.int i), some (.int j)] [] g I J) (fun g I J => hf_rn 165 0 [some (.ref 270), some (.int i), some (.int j), none, none, none, none, none, none, none] [] g I J) := by
  have hs := sok_s hσ
  have hN := sok_N hσ
  have hc : sN σ = sq σ 0 * sq σ 0 := hσ.1.2
  have hb2 : inI j.toInt64 0 1000 = rgB 0 1000 j := rgB_in (by decide) (by decide)
  by_cases ho : 0 ≤ i ∧ rgB 0 1000 j = true
  · have h2 : 0 ≤ j ∧ j ≤ 1000 := rgB_p ho.2
    have hi2 : inI j.toInt64 0 1000 = true := hb2.trans ho.2
    by_cases ha : sq σ 2 = 1
    · obtain ⟨w, w1, w2, rfl⟩ := rgB_t (by decide) (by decide) ho.2
      have hz : 0 ≤ i.toInt ∧ i.toInt < 2147483648 := by
        have h1 := ho.1
        rw [Int32.le_iff_toInt_le] at h1
        have r := iR_of i
        exact ⟨h1, by have := r.2; omega⟩
      have hw : 0 ≤ (w : Int) ∧ (w : Int) ≤ 1000 := by omega
      refine Or.inl ⟨sgR σ (sq σ) (dzX.foldl (dzS (sq σ 0) w) (i.toInt, nowR σ)).2, some (.int (lZ (dzX.foldl (dzS (sq σ 0) w) (i.toInt, nowR σ)).1).toInt32), sok_n hσ hσ.1 rfl rfl ?_, ⟨_, rfl⟩, fun g I J hL hW hC => ?_, fun g I J hL hM => ?_⟩
      · exact ripS_ok
      · have hr := c_drawF (lay_hx hL) (lay_n hL) hW (RC_c hC) hN.2 hC.1.1 ho.1 h2 (hC.1.2.2.1.trans ((age_1 hσ).mpr ha)) (J := J)
        obtain ⟨d1, d2, d3⟩ := draw_c hs hc hw dzX dzX_k i.toInt (nowR σ) J hz (RC_rw hC)
        rw [← dzX_m, ← i64_z, ← nI_iZ] at d1 d2 d3
        rw [show drF (sN σ) (sq σ 0) (nI w) (i.toInt64, J) = drX.foldl (fun p k => drT (sN σ) (sq σ 0) (nI w) k.1 k.2 p) (i.toInt64, J) from rfl, d1] at hr
        exact ⟨_, _, hr, RC_R hσ hC d2 (fun r hr => d3 r (by omega)) (fun r hr hr2 => d3 r (by omega)), kCC (fun _ _ => rfl) (fun r hr => d3 r (by omega))⟩
      · have hr := m_drawF (lay_md hL) (RM_c hM) hN.2 (hM.1 0 (by decide)) hs.2 (by omega) ho.1 hi2 ((hM.1 2 (by decide)).trans ((age_1 hσ).mpr ha)) (J := J)
        obtain ⟨I2, J2, d1, d2, d3, d4, d5, d6⟩ := draw_m hs hc hw dzX dzX_k i.toInt (nowR σ) (thI I 0) J hz (RWm_th (RM_rw hM)) (now_ok hσ)
        rw [← dzX_m, ← i64_z, ← nI_iZ] at d1
        rw [show mdF (sq σ 0) (sN σ) (nI w) (i.toInt64, thI I 0, J) = drX.foldl (fun p k => mdT (sq σ 0) (sN σ) (nI w) k.1 k.2 p) (i.toInt64, thI I 0, J) from rfl, d1] at hr
        refine ⟨I2, J2, hr, RM_R hσ hM rfl rfl ?_ d2 (fun j hj => ?_) (fun p hp => ?_), ?_, fun r hr => ⟨?_, ?_⟩⟩
        · rw [d4 270 (by decide)]; exact hq_38 hM.1
        · obtain ⟨t1, t2, t3, t4⟩ := d6 j hj
          exact ⟨t1, t2, t3, t4, congrFun (d4 275 (by decide)) j⟩
        · rw [d4 276 (by decide), th_r (by decide)]
        · rw [d4 270 (by decide), th_38]
        · rw [d4 r (by omega), th_r (by omega)]
        · rw [d5 r (by omega)]
    · exact Or.inr ⟨2, some (.int 0), Or.inr (Or.inl rfl), (by decide : ¬ cdAS 2 = 0), ⟨_, rfl⟩, fun g I J hL hW hC => cEX_0 hC (c_drawX2 (lay_hx hL) (lay_n hL) ho.1 h2 (fun e => ha ((age_1 hσ).mp (hC.1.2.2.1.symm.trans e)))), fun g I J hL hM => mOK_th hσ hM (m_drawX (lay_md hL) true (Or.inl ⟨rfl, ⟨ho.1, hi2⟩, fun e => ha ((age_1 hσ).mp ((hM.1 2 (by decide)).symm.trans e))⟩))⟩
  · have hn : ¬ (0 ≤ i ∧ 0 ≤ j ∧ j ≤ 1000) := fun c => ho ⟨c.1, decide_eq_true c.2⟩
    exact Or.inr ⟨1, some (.int 0), Or.inl rfl, (by decide : ¬ cdAS 1 = 0), ⟨_, rfl⟩, fun g I J hL hW hC => cEX_0 hC (c_drawX1 (lay_hx hL) (lay_n hL) hn), fun g I J hL hM => mOK_th hσ hM (m_drawX (lay_md hL) false (Or.inr ⟨rfl, fun c => ho ⟨c.1, hb2.symm.trans c.2⟩⟩))⟩
end
