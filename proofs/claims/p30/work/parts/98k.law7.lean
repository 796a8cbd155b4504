/-! THE LAW: universe, keep, step; a whole turn -/
section
variable {L t x3 x2 k m s a b c d w n : Nat} {xs : Nat → Int32} {σ σ2 : Sg} {g g2 : hf_G} {I I2 : hf_I} {J J2 : hf_J} {i j kx ky ki kj x y : Int32} {f : Nat → Nat} {l6 l7 : Option Value} {R : Nat → Option Nat}
theorem ac_universe (h : LI L xs σ g I J t) (ht : t ≤ 60) : Ac L xs t (hf_rn 182 289 [some (.ref 0), some (.ref 270), some (.ref 271), some (.ref 272), some (.int x), some (.int y), l6, l7] [] g I J) := by
  have hn6 := li_n h ht
  have h' := h
  obtain ⟨hσ, hL, hC, hF, ⟨x3, hA, hm⟩, hB⟩ := h'
  have hA' := hA
  obtain ⟨⟨a0, a1, a2, a3⟩, ⟨b0, b1, b2⟩, c0, c1⟩ := hA'
  obtain ⟨f1, f2, f3, f4, f5, f6, f7, f8⟩ := hF
  obtain ⟨b, hb, lb⟩ := l_low (y >>> (2 &&& 31)) (n := 3) (by decide) (by decide)
  rw [show nI 3 = 3 from rfl] at lb
  have e2 : (2 : Int32) + nI b = nI (2 + b) := by rw [show (2 : Int32) = nI 2 from rfl, nI_add]
  obtain ⟨I3, hI3⟩ : ∃ K, K = hf_u (hf_u (hf_u I 270 0 (nI (2 + b))) 270 1 1) 270 2 0 := ⟨_, rfl⟩
  obtain ⟨J3, hJ3⟩ : ∃ K, K = hf_u (hf_u J 272 0 0) 272 1 0 := ⟨_, rfl⟩
  have hC3 : RC σ I3 J3 := by
    rw [hI3, hJ3]
    exact RC_uj hσ (RC_uj hσ (RC_u hσ (RC_u hσ (RC_u hσ hC (by decide)) (by decide)) (by decide)) (by decide)) (by decide)
  obtain ⟨s1, I4, J4, r1, r2, r3⟩ := k_universe (s := 2 + b) hσ hL hC3 (by omega) (by omega)
  obtain ⟨σ2, hs2⟩ : ∃ s, s = sgR σ (unF (sq σ) (2 + b)) (unR (2 + b)) := ⟨_, rfl⟩
  have p0 : sq σ2 0 = 2 + b := by rw [hs2]; rfl
  have p2 : sq σ2 2 = 1 := by rw [hs2]; rfl
  have p15 : sP σ2 = 0 := by rw [hs2]; rfl
  have p12 : sq σ2 12 = sq σ 12 ∧ sq σ2 13 = sq σ 13 ∧ sq σ2 14 = sq σ 14 := by rw [hs2]; exact ⟨rfl, rfl, rfl⟩
  have pU : sU σ2 12 = (fun _ => 0) ∧ sW σ2 12 = (fun _ => 0) := by rw [hs2]; exact ⟨rfl, rfl⟩
  rw [← hs2] at s1 r2
  have r4 := w_universe (lay_hx hL) r1
  have q1 := k_momX s1 hL r2
  have q2 := k_momY s1 hL r2
  rw [pU.1, smA_z] at q1
  rw [pU.2, smA_z] at q2
  have q3 := w_nextX3 (lay_hx hL) (k_nextX (i := 0) (j := 0) s1 hL r2 (fun ⟨p, k, u1, u2, u3, u4⟩ => by rw [p15] at u1; exact absurd u1 (Nat.not_lt_zero _)))
  have g0 : I3 270 0 = nI (2 + b) := by rw [hI3, ku_ix (by decide), ku_ix (by decide), ku_same]
  have g1 : I3 270 1 = nI 1 := by rw [hI3, ku_ix (by decide), ku_same]; rfl
  have g2 : I3 270 2 = nI 0 := by rw [hI3, ku_same]; rfl
  have g3 : I3 270 3 = nI x3 := by rw [hI3, ku_ix (by decide), ku_ix (by decide), ku_ix (by decide)]; exact a3
  have g4 : ∀ a, a ≠ 270 → I3 a = I a := fun a ha => by rw [hI3, ku_ne ha, ku_ne ha, ku_ne ha]
  have g5 : I4 270 0 = nI (2 + b) := by rw [r3.ii (by decide)]; exact g0
  refine ⟨σ2, hf_th g, I4, J4, ?_, h.go (x2 := x3) s1 (hL.tg (k := 1) (by omega)) r2 (Gw.tg (k := 1) f1 (by omega) (by decide)) (by rw [r3.ii (by decide)]; exact g4 _ (by decide)) (by rw [r3.ii (by decide)]; exact g4 _ (by decide)) ⟨⟨?_, ?_, ?_, ?_⟩, ⟨?_, ?_, ?_⟩, ?_, ?_⟩ ?_⟩
  · have hx := lay_hx hL
    simp only [s182_289, s182_290, s182_291, s182_292, s182_294, s182_295, s182_296, s182_297, s182_300, s182_301, s182_302, s182_303, s182_304, s182_305, s182_306, s182_307, s182_308, s182_309, s182_310, s182_311, s182_312, s182_313, s182_314, s182_315, s182_316, s182_317, s182_318, s182_319, s182_320, s182_321, s182_322, s182_325, s182_326, s182_327, s182_328, s182_329, s182_330, s182_331, s182_332, s182_335, s182_336, s182_337, s182_340, s182_341, s182_342, s182_345, s182_346, s182_347, s182_350, s182_351, s182_352, s182_355, s182_356, s182_357, s182_358, s182_361, s182_363, s182_366, s182_367, s182_370, s182_371, hf_bd_v, hf_bd_n, hf_iv_i, hf_iv_l, hf_iv_a, hf_iv_n, hf_iv_2, z_lgl, z_lgg, z_lge, z_lgle, z_lgz, Option.getD_some, Option.isSome_some, ↓reduceIte, not_true_eq_false, not_false_eq_true, Option.toList_some, Option.toList_none, List.cons_append, List.nil_append, Nat.reduceAdd, Nat.add_assoc, ku_ne, ku_same, ne_eq, Nat.reduceEqDiff, reduceCtorEq, Nat.add_eq_left, Nat.left_eq_add, Nat.reduceEqDiff, q10, q_ne, true_or, or_true, lb, e2, f3, f5, z_40, z_41, z_42, z_c0, z_c1, z_c2, z_20, z_21, ← hI3, ← hJ3, g0, g5, r4, nI_mul, hx_k hx, hx_r0 hx, hx_r1 hx, hx_r2 hx, hx_r3 hx, hx_r4 hx, hx_r5 hx, q1, q2, q3]
  · rw [p0]; exact g5
  · rw [p2, r3.ii (by decide)]; exact g1
  · rw [p15, r3.ii (by decide)]; exact g2
  · rw [r3.ii (by decide)]; exact g3
  · rw [p12.2.1, r3.ii (by decide), g4 _ (by decide)]; exact b0
  · rw [p12.2.2, r3.ii (by decide), g4 _ (by decide)]; exact b1
  · rw [p12.1, r3.ii (by decide), g4 _ (by decide)]; exact b2
  · rw [pU.1, smA_z, r3.jj (by decide), hJ3, ku_ix (by decide), ku_same]
  · rw [pU.2, smA_z, r3.jj (by decide), hJ3, ku_same]
  · unfold Lm
    rw [p0, p15, p2]
    have := hm.2.2.2
    exact ⟨by omega, by omega, by omega, by omega⟩
theorem ac_keep (h : LI L xs σ g I J t) (ht : t ≤ 60) (h4 : sP σ < 4) : Ac L xs t (hf_rn 182 386 [some (.ref 0), some (.ref 270), some (.ref 271), some (.ref 272), some (.int x), some (.int y), l6, l7] [] g I J) := by
  have hn6 := li_n h ht
  have h' := h
  obtain ⟨hσ, hL, hC, hF, ⟨x3, hA, hm⟩, hB⟩ := h'
  have hA' := hA
  obtain ⟨⟨a0, a1, a2, a3⟩, ⟨b0, b1, b2⟩, c0, c1⟩ := hA'
  obtain ⟨f1, f2, f3, f4, f5, f6, f7, f8⟩ := hF
  obtain ⟨R, n, hE, hn⟩ := En_ex (L := lkN σ) (l := sq σ 6) (sok_N hσ).2 (fun a b _ _ => lk_sym) (sok_6 hσ).1
  obtain ⟨s1, hk⟩ := k_keep hσ (by omega) hE hn
  obtain ⟨I3, J3, r1, r2, r3⟩ := hk hL hC
  obtain ⟨σ2, hs2⟩ : ∃ s, s = sgK σ R n := ⟨_, rfl⟩
  have hne : (12 : Nat) ≠ sP σ := by omega
  have p15 : sP σ2 = sP σ + 1 := by rw [hs2]; exact sP_K
  have pN : sN σ2 = sN σ := by rw [hs2]; exact sN_K
  have pX : sX σ2 12 = sX σ 12 ∧ sY σ2 12 = sY σ 12 ∧ sU σ2 12 = sU σ 12 ∧ sW σ2 12 = sW σ 12 := by rw [hs2]; exact sX_Ko hne
  have pC : sC σ2 (sP σ) = n := by rw [hs2]; exact sC_Kn.1
  have pq : ∀ i, i ≠ 15 → sq σ2 i = sq σ i := fun i hi => by rw [hs2]; exact up_n hi
  rw [← hs2] at s1 r2
  have r4 := w_keep (lay_hx hL) r1
  have e1 : nI (sP σ) + 1 = nI (sP σ + 1) := nI_1 _
  have e2 : nI (sP σ + 1) - 1 = nI (sP σ) := by rw [show (1 : Int32) = nI 1 from rfl, nI_sb (by omega)]; rfl
  have hC3 : RC σ2 (hf_u I3 270 2 (nI (sP σ + 1))) J3 := RC_u s1 r2 (by decide)
  have g2 : I3 270 2 = nI (sP σ) := by rw [r3.ii (by decide)]; exact a2
  obtain ⟨u1, u2, R2, l2, t2, hR2⟩ := pic_of s1 (show sP σ < sP σ2 by omega)
  obtain ⟨k, I4, J4, q1, q2, q3, q4⟩ := l_areHalos s1 hL (by omega) hC3 f3 (by rw [ku_ix (by decide), r3.ii (by decide), pq 0 (by decide)]; exact a0) u1 u2
  have hL4 : Lay (tg k g) := hL.tg (by omega)
  have hR12 : hOf σ2 12 R n (sq σ2 5) (sq σ2 6) := by
    obtain ⟨v1, v2⟩ := sok_5 hσ
    obtain ⟨v3, v4⟩ := sok_6 hσ
    refine ⟨?_, ?_, ?_, ?_, hn, fun _ => ⟨rfl, rfl⟩, fun hlt => absurd hlt (by omega)⟩
    · rw [pX.1, pX.2.1, pN, pq 5 (by decide), pq 6 (by decide)]; exact hE
    · rw [pq 6 (by decide)]; exact v3
    · rw [pq 6 (by decide)]; exact v4
    · rw [pq 5 (by decide)]; exact v2
  obtain ⟨I5, J5, d1, d2, d3⟩ := k_halos (i := -1) s1 hL4 q3 (Or.inl ⟨rfl, rfl⟩) (Or.inl rfl) hR12
  have d4 := w_halos (lay_hx hL4) d1
  obtain ⟨I6, J6, o1, o2, o3⟩ := k_hp s1 hL4 d2 (show sP σ < sP σ2 by omega)
  rw [pC] at o1
  have hq : ∀ a, 270 ≤ a → I6 a = hf_u I3 270 2 (nI (sP σ + 1)) a ∧ J6 a = J a := fun a ha => ⟨by rw [o3.ii ha, d3.ii ha, q4.ii ha], by rw [o3.jj ha, d3.jj ha, q4.jj ha, r3.jj ha]⟩
  have hq1 : ∀ a, 270 ≤ a → a ≠ 270 → I6 a = I a := fun a ha hb => by rw [(hq a ha).1, ku_ne hb, r3.ii ha]
  have hq2 : ∀ j, j ≠ 2 → I6 270 j = I 270 j := fun j hj => by rw [(hq 270 (by decide)).1, ku_ix hj, r3.ii (by decide)]
  refine ⟨σ2, tg k g, I6, J6, ?_, h.go (x2 := x3) s1 hL4 o2 (Gw.tg f1 (by omega) (by omega)) (hq1 _ (by decide) (by decide)) (hq1 _ (by decide) (by decide)) ⟨⟨?_, ?_, ?_, ?_⟩, ⟨?_, ?_, ?_⟩, ?_, ?_⟩ ?_⟩
  · simp only [s182_386, s182_387, s182_390, s182_392, s182_393, s182_394, s182_395, s182_396, s182_397, s182_398, s182_399, s182_401, s182_402, s182_403, s182_404, s182_405, s182_406, s182_409, s182_410, s182_411, s182_413, s182_416, s182_419, s182_420, s182_421, s182_424, s182_425, s182_427, s182_430, s182_433, s182_434, s182_437, s182_438, hf_bd_v, hf_bd_n, hf_iv_i, hf_iv_l, hf_iv_a, hf_iv_n, hf_iv_2, z_lgl, z_lgg, z_lge, z_lgle, z_lgz, Option.getD_some, Option.isSome_some, ↓reduceIte, not_true_eq_false, not_false_eq_true, Option.toList_some, Option.toList_none, List.cons_append, List.nil_append, Nat.reduceAdd, Nat.add_assoc, ku_ne, ku_same, ne_eq, Nat.reduceEqDiff, reduceCtorEq, Nat.add_eq_left, Nat.left_eq_add, Nat.reduceEqDiff, q10, q_ne, true_or, or_true, r4, f3, z_42, z_c2, g2, e1, ku_same, e2, q2, d4, o1]
  · rw [hq2 0 (by decide), pq 0 (by decide)]; exact a0
  · rw [hq2 1 (by decide), pq 2 (by decide)]; exact a1
  · rw [(hq 270 (by decide)).1, ku_same, p15]
  · rw [hq2 3 (by decide)]; exact a3
  · rw [hq1 271 (by decide) (by decide), pq 13 (by decide)]; exact b0
  · rw [hq1 271 (by decide) (by decide), pq 14 (by decide)]; exact b1
  · rw [hq1 271 (by decide) (by decide), pq 12 (by decide)]; exact b2
  · rw [(hq 272 (by decide)).2, pN, pX.2.2.1]; exact c0
  · rw [(hq 272 (by decide)).2, pN, pX.2.2.2]; exact c1
  · obtain ⟨m1, m2, m3, m4⟩ := hm
    unfold Lm
    rw [pq 0 (by decide), p15, pq 2 (by decide)]
    exact ⟨m1, by omega, by omega, by omega⟩
theorem ac_step (h : LI L xs σ g I J t) (ht : t ≤ 60) : Ac L xs t (hf_rn 182 525 [some (.ref 0), some (.ref 270), some (.ref 271), some (.ref 272), some (.int x), some (.int y), l6, l7] [] g I J) := by
  have h' := h
  obtain ⟨hσ, hL, hC, hF, ⟨x3, hA, hm⟩, hB⟩ := h'
  have hA' := hA
  obtain ⟨⟨a0, a1, a2, a3⟩, ⟨b0, b1, b2⟩, c0, c1⟩ := hA'
  obtain ⟨f1, f2, f3, f4, f5, f6, f7, f8⟩ := hF
  obtain ⟨b, hb, lb⟩ := l_low y (n := 5) (by decide) (by decide)
  rw [show nI 5 = 5 from rfl] at lb
  have e1 : (1 : Int32) + nI b = nI (1 + b) := by rw [show (1 : Int32) = nI 1 from rfl, nI_add]
  have e2 : nI (sq σ 2) + nI (1 + b) = nI (sq σ 2 + (1 + b)) := nI_add _ _
  have hC2 : RC σ (hf_u I 270 1 (nI (sq σ 2 + (1 + b)))) J := RC_u hσ hC (by decide)
  obtain ⟨m1, m2, m3, m4⟩ := hm
  obtain ⟨s1, I3, J3, r1, r2, r3⟩ := k_step (m := 1 + b) hσ hL hC2 ⟨by omega, by omega⟩ (by omega)
  have r4 := w_step (lay_hx hL) r1
  obtain ⟨σ2, hs2⟩ : ∃ s, s = sgR σ (up (sq σ) 2 (sq σ 2 + (1 + b))) (stN (sq σ 3) (sq σ 4) (sN σ) (sq σ 2) (nowR σ) (1 + b)) := ⟨_, rfl⟩
  have pN : sN σ2 = sN σ := by rw [hs2]; rfl
  have p15 : sP σ2 = sP σ := by rw [hs2]; rfl
  have pq : ∀ i, i ≠ 2 → sq σ2 i = sq σ i := fun i hi => by rw [hs2]; exact up_n hi
  have p2 : sq σ2 2 = sq σ 2 + (1 + b) := by rw [hs2]; rfl
  have pU : smA (sN σ2) (sU σ2 12) = smA (sN σ) (sU σ 12) ∧ smA (sN σ2) (sW σ2 12) = smA (sN σ) (sW σ 12) := by
    have hst := stN_m (G := sq σ 3) (S := sq σ 4) (c := sN σ) (a := sq σ 2) (R4' := nowR σ) (1 + b)
    rw [hs2]
    exact hst
  rw [← hs2] at s1 r2
  have q1 := k_momX s1 hL r2
  have q2 := k_momY s1 hL r2
  rw [pU.1] at q1
  rw [pU.2] at q2
  have hq1 : ∀ a, 270 ≤ a → a ≠ 270 → I3 a = I a := fun a ha hb => by rw [r3.ii ha, ku_ne hb]
  have hq2 : ∀ j, j ≠ 1 → I3 270 j = I 270 j := fun j hj => by rw [r3.ii (by decide), ku_ix hj]
  have g1 : I3 270 1 = nI (sq σ 2 + (1 + b)) := by rw [r3.ii (by decide), ku_same]
  have j0 : J3 272 0 = smA (sN σ) (sU σ 12) := by rw [r3.jj (by decide)]; exact c0
  have j1 : J3 272 1 = smA (sN σ) (sW σ 12) := by rw [r3.jj (by decide)]; exact c1
  have hx := lay_hx hL
  refine ⟨σ2, g, I3, J3, ?_, h.go (x2 := x3) s1 hL r2 (Gw.r f1) (hq1 _ (by decide) (by decide)) (hq1 _ (by decide) (by decide)) ⟨⟨?_, ?_, ?_, ?_⟩, ⟨?_, ?_, ?_⟩, ?_, ?_⟩ ?_⟩
  · simp only [s182_525, s182_526, s182_528, s182_529, s182_532, s182_533, s182_535, s182_536, s182_537, s182_538, s182_539, s182_541, s182_542, s182_543, s182_544, s182_546, s182_549, s182_550, s182_551, s182_552, s182_555, s182_556, s182_557, s182_560, s182_561, s182_562, s182_563, s182_564, s182_567, s182_568, s182_569, s182_572, s182_573, s182_574, s182_575, s182_576, s182_579, s182_580, s182_583, s182_584, hf_bd_v, hf_bd_n, hf_iv_i, hf_iv_l, hf_iv_a, hf_iv_n, hf_iv_2, z_lgl, z_lgg, z_lge, z_lgle, z_lgz, Option.getD_some, Option.isSome_some, ↓reduceIte, not_true_eq_false, not_false_eq_true, Option.toList_some, Option.toList_none, List.cons_append, List.nil_append, Nat.reduceAdd, Nat.add_assoc, ku_ne, ku_same, ne_eq, Nat.reduceEqDiff, reduceCtorEq, Nat.add_eq_left, Nat.left_eq_add, Nat.reduceEqDiff, q10, q_ne, true_or, or_true, lb, e1, f3, f5, z_41, z_c1, a1, e2, r4, g1, hx_k hx, hx_r0 hx, hx_r1 hx, hx_r2 hx, hx_r3 hx, hx_r4 hx, hx_r5 hx, q1, q2, z_20, z_21, z_c0, j0, j1]
  · rw [hq2 0 (by decide), pq 0 (by decide)]; exact a0
  · rw [g1, p2]
  · rw [hq2 2 (by decide), p15]; exact a2
  · rw [hq2 3 (by decide)]; exact a3
  · rw [hq1 271 (by decide) (by decide), pq 13 (by decide)]; exact b0
  · rw [hq1 271 (by decide) (by decide), pq 14 (by decide)]; exact b1
  · rw [hq1 271 (by decide) (by decide), pq 12 (by decide)]; exact b2
  · rw [pU.1]; exact j0
  · rw [pU.2]; exact j1
  · unfold Lm
    rw [pq 0 (by decide), p15, p2]
    exact ⟨m1, m2, by omega, by omega⟩
/-- a whole turn -/
theorem l_acts (h : LI L xs σ g I J t) (ht : t ≤ 60) (x y : Int32) : Ac L xs t (hf_rn 182 0 [some (.ref 0), some (.ref 270), some (.ref 271), some (.ref 272), some (.int x), some (.int y), none, none] [] g I J) := by
  have h' := h
  obtain ⟨hσ, hL, hC, hF, ⟨x3, hA, hm⟩, hB⟩ := h'
  obtain ⟨⟨a0, a1, a2, a3⟩, ⟨b0, b1, b2⟩, c0, c1⟩ := hA
  obtain ⟨f1, f2, f3, f4, f5, f6, f7, f8⟩ := hF
  obtain ⟨kd, hkd, lk⟩ := l_low x (n := 16) (by decide) (by decide)
  rw [show nI 16 = 16 from rfl] at lk
  have t2 : (2 ≤ nI kd) = (2 ≤ kd) := by rw [show (2 : Int32) = nI 2 from rfl]; exact z_ii (by decide) (by omega)
  have t11 : (11 ≤ nI kd) = (11 ≤ kd) := by rw [show (11 : Int32) = nI 11 from rfl]; exact z_ii (by decide) (by omega)
  have te : ∀ n, n < 100 → (nI kd = nI n) = (kd = n) := fun n hn => z_ie (by omega) (by omega)
  have e2 : (nI kd = 2) = (kd = 2) := te 2 (by decide)
  have e3 : (nI kd = 3) = (kd = 3) := te 3 (by decide)
  have e4 : (nI kd = 4) = (kd = 4) := te 4 (by decide)
  have e5 : (nI kd = 5) = (kd = 5) := te 5 (by decide)
  have e6 : (nI kd = 6) = (kd = 6) := te 6 (by decide)
  have e7 : (nI kd = 7) = (kd = 7) := te 7 (by decide)
  have e11 : (nI kd = 11) = (kd = 11) := te 11 (by decide)
  have e12 : (nI kd = 12) = (kd = 12) := te 12 (by decide)
  have p4 : (4 ≤ nI (sP σ)) = (4 ≤ sP σ) := by rw [show (4 : Int32) = nI 4 from rfl]; exact z_ii (by decide) (by have := sok_P hσ; omega)
  simp only [s182_0, s182_2, s182_4, s182_7, hf_bd_v, hf_bd_n, hf_iv_i, hf_iv_l, hf_iv_a, hf_iv_n, hf_iv_2, z_lgl, z_lgg, z_lge, z_lgle, z_lgz, Option.getD_some, Option.isSome_some, ↓reduceIte, not_true_eq_false, not_false_eq_true, Option.toList_some, Option.toList_none, List.cons_append, List.nil_append, Nat.reduceAdd, Nat.add_assoc, ku_ne, ku_same, ne_eq, Nat.reduceEqDiff, reduceCtorEq, Nat.add_eq_left, Nat.left_eq_add, Nat.reduceEqDiff, q10, q_ne, true_or, or_true, lk]
  by_cases k2 : 2 ≤ kd
  · have T2 : (2 ≤ nI kd) = True := by rw [t2]; exact eq_true k2
    by_cases c2 : kd = 2
    · have E : (nI kd = 2) = True := by rw [e2]; exact eq_true c2
      simp only [s182_9, s182_11, s182_12, s182_28, s182_30, s182_31, s182_77, s182_79, s182_80, s182_117, s182_119, s182_120, s182_166, s182_168, s182_169, s182_216, s182_218, s182_220, s182_273, s182_275, s182_277, s182_280, s182_282, s182_283, s182_286, s182_372, s182_374, s182_376, s182_379, s182_380, s182_381, s182_382, s182_383, s182_439, s182_441, s182_443, s182_471, s182_473, s182_475, hf_bd_v, hf_bd_n, hf_iv_i, hf_iv_l, hf_iv_a, hf_iv_n, hf_iv_2, z_lgl, z_lgg, z_lge, z_lgle, z_lgz, Option.getD_some, Option.isSome_some, ↓reduceIte, not_true_eq_false, not_false_eq_true, Option.toList_some, Option.toList_none, List.cons_append, List.nil_append, Nat.reduceAdd, Nat.add_assoc, ku_ne, ku_same, ne_eq, Nat.reduceEqDiff, reduceCtorEq, Nat.add_eq_left, Nat.left_eq_add, Nat.reduceEqDiff, q10, q_ne, true_or, or_true, T2, E]
      exact ac_pull h ht
    have D2 : (nI kd = 2) = False := by rw [e2]; exact eq_false c2
    by_cases c3 : kd = 3
    · have E : (nI kd = 3) = True := by rw [e3]; exact eq_true c3
      simp only [s182_9, s182_11, s182_12, s182_28, s182_30, s182_31, s182_77, s182_79, s182_80, s182_117, s182_119, s182_120, s182_166, s182_168, s182_169, s182_216, s182_218, s182_220, s182_273, s182_275, s182_277, s182_280, s182_282, s182_283, s182_286, s182_372, s182_374, s182_376, s182_379, s182_380, s182_381, s182_382, s182_383, s182_439, s182_441, s182_443, s182_471, s182_473, s182_475, hf_bd_v, hf_bd_n, hf_iv_i, hf_iv_l, hf_iv_a, hf_iv_n, hf_iv_2, z_lgl, z_lgg, z_lge, z_lgle, z_lgz, Option.getD_some, Option.isSome_some, ↓reduceIte, not_true_eq_false, not_false_eq_true, Option.toList_some, Option.toList_none, List.cons_append, List.nil_append, Nat.reduceAdd, Nat.add_assoc, ku_ne, ku_same, ne_eq, Nat.reduceEqDiff, reduceCtorEq, Nat.add_eq_left, Nat.left_eq_add, Nat.reduceEqDiff, q10, q_ne, true_or, or_true, T2, D2, E]
      exact ac_link h
    have D3 : (nI kd = 3) = False := by rw [e3]; exact eq_false c3
    by_cases c4 : kd = 4
    · have E : (nI kd = 4) = True := by rw [e4]; exact eq_true c4
      simp only [s182_9, s182_11, s182_12, s182_28, s182_30, s182_31, s182_77, s182_79, s182_80, s182_117, s182_119, s182_120, s182_166, s182_168, s182_169, s182_216, s182_218, s182_220, s182_273, s182_275, s182_277, s182_280, s182_282, s182_283, s182_286, s182_372, s182_374, s182_376, s182_379, s182_380, s182_381, s182_382, s182_383, s182_439, s182_441, s182_443, s182_471, s182_473, s182_475, hf_bd_v, hf_bd_n, hf_iv_i, hf_iv_l, hf_iv_a, hf_iv_n, hf_iv_2, z_lgl, z_lgg, z_lge, z_lgle, z_lgz, Option.getD_some, Option.isSome_some, ↓reduceIte, not_true_eq_false, not_false_eq_true, Option.toList_some, Option.toList_none, List.cons_append, List.nil_append, Nat.reduceAdd, Nat.add_assoc, ku_ne, ku_same, ne_eq, Nat.reduceEqDiff, reduceCtorEq, Nat.add_eq_left, Nat.left_eq_add, Nat.reduceEqDiff, q10, q_ne, true_or, or_true, T2, D2, D3, E]
      exact ac_recipes h
    have D4 : (nI kd = 4) = False := by rw [e4]; exact eq_false c4
    by_cases c5 : kd = 5
    · have E : (nI kd = 5) = True := by rw [e5]; exact eq_true c5
      simp only [s182_9, s182_11, s182_12, s182_28, s182_30, s182_31, s182_77, s182_79, s182_80, s182_117, s182_119, s182_120, s182_166, s182_168, s182_169, s182_216, s182_218, s182_220, s182_273, s182_275, s182_277, s182_280, s182_282, s182_283, s182_286, s182_372, s182_374, s182_376, s182_379, s182_380, s182_381, s182_382, s182_383, s182_439, s182_441, s182_443, s182_471, s182_473, s182_475, hf_bd_v, hf_bd_n, hf_iv_i, hf_iv_l, hf_iv_a, hf_iv_n, hf_iv_2, z_lgl, z_lgg, z_lge, z_lgle, z_lgz, Option.getD_some, Option.isSome_some, ↓reduceIte, not_true_eq_false, not_false_eq_true, Option.toList_some, Option.toList_none, List.cons_append, List.nil_append, Nat.reduceAdd, Nat.add_assoc, ku_ne, ku_same, ne_eq, Nat.reduceEqDiff, reduceCtorEq, Nat.add_eq_left, Nat.left_eq_add, Nat.reduceEqDiff, q10, q_ne, true_or, or_true, T2, D2, D3, D4, E]
      exact ac_survey h
    have D5 : (nI kd = 5) = False := by rw [e5]; exact eq_false c5
    by_cases c6 : kd = 6
    · have E : (nI kd = 6) = True := by rw [e6]; exact eq_true c6
      simp only [s182_9, s182_11, s182_12, s182_28, s182_30, s182_31, s182_77, s182_79, s182_80, s182_117, s182_119, s182_120, s182_166, s182_168, s182_169, s182_216, s182_218, s182_220, s182_273, s182_275, s182_277, s182_280, s182_282, s182_283, s182_286, s182_372, s182_374, s182_376, s182_379, s182_380, s182_381, s182_382, s182_383, s182_439, s182_441, s182_443, s182_471, s182_473, s182_475, hf_bd_v, hf_bd_n, hf_iv_i, hf_iv_l, hf_iv_a, hf_iv_n, hf_iv_2, z_lgl, z_lgg, z_lge, z_lgle, z_lgz, Option.getD_some, Option.isSome_some, ↓reduceIte, not_true_eq_false, not_false_eq_true, Option.toList_some, Option.toList_none, List.cons_append, List.nil_append, Nat.reduceAdd, Nat.add_assoc, ku_ne, ku_same, ne_eq, Nat.reduceEqDiff, reduceCtorEq, Nat.add_eq_left, Nat.left_eq_add, Nat.reduceEqDiff, q10, q_ne, true_or, or_true, T2, D2, D3, D4, D5, E]
      exact ac_observe h
    have D6 : (nI kd = 6) = False := by rw [e6]; exact eq_false c6
    by_cases c11 : 11 ≤ kd
    · have T11 : (11 ≤ nI kd) = True := by rw [t11]; exact eq_true c11
      have D7 : (nI kd = 7) = False := by rw [e7]; exact eq_false (by omega)
      by_cases c : kd = 11
      · have E : (nI kd = 11) = True := by rw [e11]; exact eq_true c
        simp only [s182_9, s182_11, s182_12, s182_28, s182_30, s182_31, s182_77, s182_79, s182_80, s182_117, s182_119, s182_120, s182_166, s182_168, s182_169, s182_216, s182_218, s182_220, s182_273, s182_275, s182_277, s182_280, s182_282, s182_283, s182_286, s182_372, s182_374, s182_376, s182_379, s182_380, s182_381, s182_382, s182_383, s182_439, s182_441, s182_443, s182_471, s182_473, s182_475, hf_bd_v, hf_bd_n, hf_iv_i, hf_iv_l, hf_iv_a, hf_iv_n, hf_iv_2, z_lgl, z_lgg, z_lge, z_lgle, z_lgz, Option.getD_some, Option.isSome_some, ↓reduceIte, not_true_eq_false, not_false_eq_true, Option.toList_some, Option.toList_none, List.cons_append, List.nil_append, Nat.reduceAdd, Nat.add_assoc, ku_ne, ku_same, ne_eq, Nat.reduceEqDiff, reduceCtorEq, Nat.add_eq_left, Nat.left_eq_add, Nat.reduceEqDiff, q10, q_ne, true_or, or_true, T2, D2, D3, D4, D5, D6, D7, T11, E]
        exact ac_counts h ht
      have D11 : (nI kd = 11) = False := by rw [e11]; exact eq_false c
      by_cases c12 : kd = 12
      · have E : (nI kd = 12) = True := by rw [e12]; exact eq_true c12
        simp only [s182_9, s182_11, s182_12, s182_28, s182_30, s182_31, s182_77, s182_79, s182_80, s182_117, s182_119, s182_120, s182_166, s182_168, s182_169, s182_216, s182_218, s182_220, s182_273, s182_275, s182_277, s182_280, s182_282, s182_283, s182_286, s182_372, s182_374, s182_376, s182_379, s182_380, s182_381, s182_382, s182_383, s182_439, s182_441, s182_443, s182_471, s182_473, s182_475, hf_bd_v, hf_bd_n, hf_iv_i, hf_iv_l, hf_iv_a, hf_iv_n, hf_iv_2, z_lgl, z_lgg, z_lge, z_lgle, z_lgz, Option.getD_some, Option.isSome_some, ↓reduceIte, not_true_eq_false, not_false_eq_true, Option.toList_some, Option.toList_none, List.cons_append, List.nil_append, Nat.reduceAdd, Nat.add_assoc, ku_ne, ku_same, ne_eq, Nat.reduceEqDiff, reduceCtorEq, Nat.add_eq_left, Nat.left_eq_add, Nat.reduceEqDiff, q10, q_ne, true_or, or_true, T2, D2, D3, D4, D5, D6, D7, T11, D11, E]
        exact ac_trees h ht
      have D12 : (nI kd = 12) = False := by rw [e12]; exact eq_false c12
      simp only [s182_9, s182_11, s182_12, s182_28, s182_30, s182_31, s182_77, s182_79, s182_80, s182_117, s182_119, s182_120, s182_166, s182_168, s182_169, s182_216, s182_218, s182_220, s182_273, s182_275, s182_277, s182_280, s182_282, s182_283, s182_286, s182_372, s182_374, s182_376, s182_379, s182_380, s182_381, s182_382, s182_383, s182_439, s182_441, s182_443, s182_471, s182_473, s182_475, hf_bd_v, hf_bd_n, hf_iv_i, hf_iv_l, hf_iv_a, hf_iv_n, hf_iv_2, z_lgl, z_lgg, z_lge, z_lgle, z_lgz, Option.getD_some, Option.isSome_some, ↓reduceIte, not_true_eq_false, not_false_eq_true, Option.toList_some, Option.toList_none, List.cons_append, List.nil_append, Nat.reduceAdd, Nat.add_assoc, ku_ne, ku_same, ne_eq, Nat.reduceEqDiff, reduceCtorEq, Nat.add_eq_left, Nat.left_eq_add, Nat.reduceEqDiff, q10, q_ne, true_or, or_true, T2, D2, D3, D4, D5, D6, D7, T11, D11, D12]
      exact ac_step h ht
    have T11 : (11 ≤ nI kd) = False := by rw [t11]; exact eq_false c11
    have D11 : (nI kd = 11) = False := by rw [e11]; exact eq_false (by omega)
    have D12 : (nI kd = 12) = False := by rw [e12]; exact eq_false (by omega)
    have rest : Ac L xs t (hf_rn 182 372 [some (.ref 0), some (.ref 270), some (.ref 271), some (.ref 272), some (.int x), some (.int y), some (.int (nI kd)), none] [] g I J) := by
      by_cases h4 : 4 ≤ sP σ
      · have P4 : (4 ≤ nI (sP σ)) = True := by rw [p4]; exact eq_true h4
        simp only [s182_372, s182_374, s182_376, s182_379, s182_380, s182_381, s182_382, s182_383, s182_439, s182_441, s182_443, s182_471, s182_473, s182_475, hf_bd_v, hf_bd_n, hf_iv_i, hf_iv_l, hf_iv_a, hf_iv_n, hf_iv_2, z_lgl, z_lgg, z_lge, z_lgle, z_lgz, Option.getD_some, Option.isSome_some, ↓reduceIte, not_true_eq_false, not_false_eq_true, Option.toList_some, Option.toList_none, List.cons_append, List.nil_append, Nat.reduceAdd, Nat.add_assoc, ku_ne, ku_same, ne_eq, Nat.reduceEqDiff, reduceCtorEq, Nat.add_eq_left, Nat.left_eq_add, Nat.reduceEqDiff, q10, q_ne, true_or, or_true, T11, D11, D12, f3, z_42, z_c2, a2, P4]
        exact ac_step h ht
      · have P4 : (4 ≤ nI (sP σ)) = False := by rw [p4]; exact eq_false h4
        simp only [s182_372, s182_374, s182_376, s182_379, s182_380, s182_381, s182_382, s182_383, s182_439, s182_441, s182_443, s182_471, s182_473, s182_475, hf_bd_v, hf_bd_n, hf_iv_i, hf_iv_l, hf_iv_a, hf_iv_n, hf_iv_2, z_lgl, z_lgg, z_lge, z_lgle, z_lgz, Option.getD_some, Option.isSome_some, ↓reduceIte, not_true_eq_false, not_false_eq_true, Option.toList_some, Option.toList_none, List.cons_append, List.nil_append, Nat.reduceAdd, Nat.add_assoc, ku_ne, ku_same, ne_eq, Nat.reduceEqDiff, reduceCtorEq, Nat.add_eq_left, Nat.left_eq_add, Nat.reduceEqDiff, q10, q_ne, true_or, or_true, T11, D11, D12, f3, z_42, z_c2, a2, P4]
        exact ac_keep h ht (by omega)
    by_cases c7 : kd = 7
    · have E : (nI kd = 7) = True := by rw [e7]; exact eq_true c7
      obtain ⟨z, hz, lz⟩ := l_low y (n := 3) (by decide) (by decide)
      rw [show nI 3 = 3 from rfl] at lz
      by_cases z0 : z = 0
      · have Z : (nI z = 0) = True := eq_true (by rw [z0]; rfl)
        simp only [s182_9, s182_11, s182_12, s182_28, s182_30, s182_31, s182_77, s182_79, s182_80, s182_117, s182_119, s182_120, s182_166, s182_168, s182_169, s182_216, s182_218, s182_220, s182_273, s182_275, s182_277, s182_280, s182_282, s182_283, s182_286, s182_372, s182_374, s182_376, s182_379, s182_380, s182_381, s182_382, s182_383, s182_439, s182_441, s182_443, s182_471, s182_473, s182_475, hf_bd_v, hf_bd_n, hf_iv_i, hf_iv_l, hf_iv_a, hf_iv_n, hf_iv_2, z_lgl, z_lgg, z_lge, z_lgle, z_lgz, Option.getD_some, Option.isSome_some, ↓reduceIte, not_true_eq_false, not_false_eq_true, Option.toList_some, Option.toList_none, List.cons_append, List.nil_append, Nat.reduceAdd, Nat.add_assoc, ku_ne, ku_same, ne_eq, Nat.reduceEqDiff, reduceCtorEq, Nat.add_eq_left, Nat.left_eq_add, Nat.reduceEqDiff, q10, q_ne, true_or, or_true, T2, D2, D3, D4, D5, D6, E, lz, Z]
        exact ac_universe h ht
      · have Z : (nI z = 0) = False := eq_false (fun q => z0 (by rw [show (0 : Int32) = nI 0 from rfl, z_ie (by omega) (by decide)] at q; exact q))
        simp only [s182_9, s182_11, s182_12, s182_28, s182_30, s182_31, s182_77, s182_79, s182_80, s182_117, s182_119, s182_120, s182_166, s182_168, s182_169, s182_216, s182_218, s182_220, s182_273, s182_275, s182_277, s182_280, s182_282, s182_283, s182_286, hf_bd_v, hf_bd_n, hf_iv_i, hf_iv_l, hf_iv_a, hf_iv_n, hf_iv_2, z_lgl, z_lgg, z_lge, z_lgle, z_lgz, Option.getD_some, Option.isSome_some, ↓reduceIte, not_true_eq_false, not_false_eq_true, Option.toList_some, Option.toList_none, List.cons_append, List.nil_append, Nat.reduceAdd, Nat.add_assoc, ku_ne, ku_same, ne_eq, Nat.reduceEqDiff, reduceCtorEq, Nat.add_eq_left, Nat.left_eq_add, Nat.reduceEqDiff, q10, q_ne, true_or, or_true, T2, D2, D3, D4, D5, D6, E, lz, Z]
        exact rest
    have D7 : (nI kd = 7) = False := by rw [e7]; exact eq_false c7
    simp only [s182_9, s182_11, s182_12, s182_28, s182_30, s182_31, s182_77, s182_79, s182_80, s182_117, s182_119, s182_120, s182_166, s182_168, s182_169, s182_216, s182_218, s182_220, s182_273, s182_275, s182_277, s182_280, s182_282, s182_283, s182_286, hf_bd_v, hf_bd_n, hf_iv_i, hf_iv_l, hf_iv_a, hf_iv_n, hf_iv_2, z_lgl, z_lgg, z_lge, z_lgle, z_lgz, Option.getD_some, Option.isSome_some, ↓reduceIte, not_true_eq_false, not_false_eq_true, Option.toList_some, Option.toList_none, List.cons_append, List.nil_append, Nat.reduceAdd, Nat.add_assoc, ku_ne, ku_same, ne_eq, Nat.reduceEqDiff, reduceCtorEq, Nat.add_eq_left, Nat.left_eq_add, Nat.reduceEqDiff, q10, q_ne, true_or, or_true, T2, D2, D3, D4, D5, D6, D7]
    exact rest
  · have T2 : (2 ≤ nI kd) = False := by rw [t2]; exact eq_false k2
    obtain ⟨σ2, g2, I2, J2, r1, r2⟩ := l_waves h ht (x >>> (4 &&& 31)) y
    refine ⟨σ2, g2, I2, J2, ?_, r2⟩
    simp only [s182_9, s182_11, s182_12, s182_15, s182_16, s182_17, s182_18, s182_20, s182_21, s182_22, s182_24, s182_27, hf_bd_v, hf_bd_n, hf_iv_i, hf_iv_l, hf_iv_a, hf_iv_n, hf_iv_2, z_lgl, z_lgg, z_lge, z_lgle, z_lgz, Option.getD_some, Option.isSome_some, ↓reduceIte, not_true_eq_false, not_false_eq_true, Option.toList_some, Option.toList_none, List.cons_append, List.nil_append, Nat.reduceAdd, Nat.add_assoc, ku_ne, ku_same, ne_eq, Nat.reduceEqDiff, reduceCtorEq, Nat.add_eq_left, Nat.left_eq_add, Nat.reduceEqDiff, q10, q_ne, true_or, or_true, T2, r1]
end
