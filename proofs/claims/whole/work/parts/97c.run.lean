/-! THE LAW: THE WHOLE RUN -/
theorem and31 (x : Int32) : ∃ c, c < 32 ∧ x &&& 31 = nI c := ⟨x.toBitVec.toNat % 32, Nat.mod_lt _ (by decide), by
  apply Int32.toBitVec_inj.1
  apply BitVec.eq_of_toNat_eq
  have e2 : (nI (x.toBitVec.toNat % 32)).toBitVec.toNat = (x.toBitVec.toNat % 32) % 2 ^ 32 := BitVec.toNat_ofNat _ _
  rw [Int32.toBitVec_and, BitVec.toNat_and, e2, show (31 : Int32).toBitVec.toNat = 2 ^ 5 - 1 from by decide, Nat.and_two_pow_sub_one_eq_mod]
  omega⟩
section
variable {σ σ2 : Sg} {g g2 : hf_G} {I I2 I4 : hf_I} {J J2 J4 : hf_J} {L t n a b : Nat} {xs : Nat → Int32} {P : Option hf_R → Prop} {l5 l6 l7 : Option Value}
theorem z_29 (h : L ≤ 2560) (ht : 5 * t ≤ 5000) : (nI L - 5 < nI (5 * t)) = (L < 5 * t + 5) := by
  rw [nI_iZ, nI_iZ, show (5 : Int32) = iZ 5 from rfl, iZ_sub, iZ_lt (iRs (by omega) (by omega)) (iRs (by omega) (by omega))]
  apply propext; omega
theorem law_step (hI : LI L xs σ g I J) (ht : 5 * t + 5 ≤ L) (hL : L ≤ 2560) (hK : Cont L xs g t P) : P (hf_rn 254 23 [some (.ref 1000001), some (.ref 0), some (.ref 270), some (.ref 292), some (.int (nI (5 * t))), l5, l6, l7] [] g I J) := by
  obtain ⟨in0, cl0⟩ := ins (a := 5 * t) (L := L) (by omega) hL
  have hk1 : hf_k g 1000001 = (6, L) := hI.2.2.2.2.2.1
  have hx0 : I 1000001 = xs := hI.2.2.2.2.2.2.2
  have hlt : L < 2147483648 := by omega
  have e29 : (nI L - 5 < nI (5 * t)) = False := (z_29 hL (by omega)).trans (eq_false (by omega))
  simp only [s254_23, s254_25, s254_26, s254_27, s254_28, s254_29, s254_32, s254_33, s254_35, s254_36, s254_38, hf_bd_v, hf_bd_n, hf_iv_i, hf_iv_l, hf_iv_a, hf_iv_n, hf_iv_2, z_lgl, z_lgg, z_lge, z_lgle, z_lgz, Option.getD_some, Option.isSome_some, ↓reduceIte, not_true_eq_false, not_false_eq_true, Option.toList_some, Option.toList_none, List.cons_append, List.nil_append, Nat.reduceAdd, Nat.add_assoc, ku_ne, ku_same, ne_eq, Nat.reduceEqDiff, reduceCtorEq, Nat.add_eq_left, Nat.left_eq_add, Nat.reduceEqDiff, q10, q_ne, true_or, or_true, in0, cl0, hk1, hx0, hlt, e29, Nat.reduceLeDiff, and_self]
  obtain ⟨c, hc, e⟩ := and31 (xs (5 * t))
  rw [e]
  have : c = 0 ∨ c = 1 ∨ c = 2 ∨ c = 3 ∨ c = 4 ∨ c = 5 ∨ c = 6 ∨ c = 7 ∨ c = 8 ∨ c = 9 ∨ c = 10 ∨ c = 11 ∨ c = 12 ∨ c = 13 ∨ c = 14 ∨ c = 15 ∨ c = 16 ∨ c = 17 ∨ c = 18 ∨ c = 19 ∨ c = 20 ∨ c = 21 ∨ c = 22 ∨ c = 23 ∨ c = 24 ∨ c = 25 ∨ c = 26 ∨ 27 ≤ c := by omega
  rcases this with hc | hc | hc | hc | hc | hc | hc | hc | hc | hc | hc | hc | hc | hc | hc | hc | hc | hc | hc | hc | hc | hc | hc | hc | hc | hc | hc | hc
  · subst hc
    rw [show nI 0 = 0 from rfl]
    rw [s254_39_c0]
    exact lc_universe hI ht hL hK
  · subst hc
    rw [show nI 1 = 1 from rfl]
    rw [s254_39_c1]
    exact lc_ripple hI ht hL hK
  · subst hc
    rw [show nI 2 = 2 from rfl]
    rw [s254_39_c2]
    exact lc_draw hI ht hL hK
  · subst hc
    rw [show nI 3 = 3 from rfl]
    rw [s254_39_c3]
    exact lc_grain hI ht hL hK
  · subst hc
    rw [show nI 4 = 4 from rfl]
    rw [s254_39_c4]
    exact lc_pull hI ht hL hK
  · subst hc
    rw [show nI 5 = 5 from rfl]
    rw [s254_39_c5]
    by_cases hb2 : xs (5 * t + 2) = 0
    · by_cases hb3 : xs (5 * t + 3) = 0
      · exact lc_forceY hI ht hL hK hb2 hb3
      · exact lc_forceCY hI ht hL hK hb2 hb3
    · by_cases hb3 : xs (5 * t + 3) = 0
      · exact lc_forceX hI ht hL hK hb2 hb3
      · exact lc_forceCX hI ht hL hK hb2 hb3
  · subst hc
    rw [show nI 6 = 6 from rfl]
    rw [s254_39_c6]
    exact lc_step hI ht hL hK
  · subst hc
    rw [show nI 7 = 7 from rfl]
    rw [s254_39_c7]
    by_cases hb1 : xs (5 * t + 1) = 0
    · exact lc_momY hI ht hL hK hb1
    · exact lc_momX hI ht hL hK hb1
  · subst hc
    rw [show nI 8 = 8 from rfl]
    rw [s254_39_c8]
    exact lc_link hI ht hL hK
  · subst hc
    rw [show nI 9 = 9 from rfl]
    rw [s254_39_c9]
    exact lc_halos hI ht hL hK
  · subst hc
    rw [show nI 10 = 10 from rfl]
    rw [s254_39_c10]
    exact lc_halosAnew hI ht hL hK
  · subst hc
    rw [show nI 11 = 11 from rfl]
    rw [s254_39_c11]
    exact lc_grains hI ht hL hK
  · subst hc
    rw [show nI 12 = 12 from rfl]
    rw [s254_39_c12]
    exact lc_ofHalo hI ht hL hK
  · subst hc
    rw [show nI 13 = 13 from rfl]
    rw [s254_39_c13]
    exact lc_bound hI ht hL hK
  · subst hc
    rw [show nI 14 = 14 from rfl]
    rw [s254_39_c14]
    exact lc_keep hI ht hL hK
  · subst hc
    rw [show nI 15 = 15 from rfl]
    rw [s254_39_c15]
    exact lc_next hI ht hL hK
  · subst hc
    rw [show nI 16 = 16 from rfl]
    rw [s254_39_c16]
    exact lc_from hI ht hL hK
  · subst hc
    rw [show nI 17 = 17 from rfl]
    rw [s254_39_c17]
    exact lc_tree hI ht hL hK
  · subst hc
    rw [show nI 18 = 18 from rfl]
    rw [s254_39_c18]
    exact lc_recipes hI ht hL hK
  · subst hc
    rw [show nI 19 = 19 from rfl]
    rw [s254_39_c19]
    exact lc_galaxy hI ht hL hK
  · subst hc
    rw [show nI 20 = 20 from rfl]
    rw [s254_39_c20]
    exact lc_kept hI ht hL hK
  · subst hc
    rw [show nI 21 = 21 from rfl]
    rw [s254_39_c21]
    exact lc_observe hI ht hL hK
  · subst hc
    rw [show nI 22 = 22 from rfl]
    rw [s254_39_c22]
    exact lc_survey hI ht hL hK
  · subst hc
    rw [show nI 23 = 23 from rfl]
    rw [s254_39_c23]
    exact lc_seen hI ht hL hK
  · subst hc
    rw [show nI 24 = 24 from rfl]
    rw [s254_39_c24]
    exact lc_sky hI ht hL hK
  · subst hc
    rw [show nI 25 = 25 from rfl]
    rw [s254_39_c25]
    exact lc_pairs hI ht hL hK
  · subst hc
    rw [show nI 26 = 26 from rfl]
    rw [s254_39_c26]
    exact lc_voidCells hI ht hL hK
  · have h39 : (nI c).toInt < 0 ∨ 26 < (nI c).toInt := by rw [nI_toInt (by omega)]; omega
    obtain ⟨-, -, -, -, ad5⟩ := ads t
    rw [s254_39 h39]
    simp only [s254_1748, s254_1751, hf_bd_v, hf_bd_n, hf_iv_i, hf_iv_l, hf_iv_a, hf_iv_n, hf_iv_2, z_lgl, z_lgg, z_lge, z_lgle, z_lgz, Option.getD_some, Option.isSome_some, ↓reduceIte, not_true_eq_false, not_false_eq_true, Option.toList_some, Option.toList_none, List.cons_append, List.nil_append, Nat.reduceAdd, Nat.add_assoc, ku_ne, ku_same, ne_eq, Nat.reduceEqDiff, reduceCtorEq, Nat.add_eq_left, Nat.left_eq_add, Nat.reduceEqDiff, q10, q_ne, true_or, or_true, ad5]
    exact hK σ g I J _ _ _ hI ⟨by omega, by omega⟩
theorem law_run (hL : L ≤ 2560) : ∀ (d t : Nat) (σ : Sg) (g : hf_G) (I : hf_I) (J : hf_J) (l5 l6 l7 : Option Value), L < 5 * (t + d) + 5 → t + d ≤ 600 → LI L xs σ g I J → hf_c g ≤ 293 + t → hf_s g ≤ 26195 + 6 * t → ∃ g1 I1 J1, hf_rn 254 23 [some (.ref 1000001), some (.ref 0), some (.ref 270), some (.ref 292), some (.int (nI (5 * t))), l5, l6, l7] [] g I J = some (.inl (some (.int 1)), g1, I1, J1) ∧ hf_c g1 ≤ 601024 ∧ hf_s g1 ≤ 7293034 := by
  have fin : ∀ (t : Nat) (σ : Sg) (g : hf_G) (I : hf_I) (J : hf_J) (l5 l6 l7 : Option Value), L < 5 * t + 5 → t ≤ 600 → LI L xs σ g I J → hf_c g ≤ 293 + t → hf_s g ≤ 26195 + 6 * t → ∃ g1 I1 J1, hf_rn 254 23 [some (.ref 1000001), some (.ref 0), some (.ref 270), some (.ref 292), some (.int (nI (5 * t))), l5, l6, l7] [] g I J = some (.inl (some (.int 1)), g1, I1, J1) ∧ hf_c g1 ≤ 601024 ∧ hf_s g1 ≤ 7293034 := by
    intro t σ g I J l5 l6 l7 h1 h2 hI hc hs
    have hk1 : hf_k g 1000001 = (6, L) := hI.2.2.2.2.2.1
    have hlt : L < 2147483648 := by omega
    have e29 : (nI L - 5 < nI (5 * t)) = True := (z_29 hL (by omega)).trans (eq_true h1)
    refine ⟨g, I, J, ?_, by omega, by omega⟩
    simp only [s254_23, s254_25, s254_26, s254_27, s254_28, s254_29, s254_1754, s254_1755, hf_bd_v, hf_bd_n, hf_iv_i, hf_iv_l, hf_iv_a, hf_iv_n, hf_iv_2, z_lgl, z_lgg, z_lge, z_lgle, z_lgz, Option.getD_some, Option.isSome_some, ↓reduceIte, not_true_eq_false, not_false_eq_true, Option.toList_some, Option.toList_none, List.cons_append, List.nil_append, Nat.reduceAdd, Nat.add_assoc, ku_ne, ku_same, ne_eq, Nat.reduceEqDiff, reduceCtorEq, Nat.add_eq_left, Nat.left_eq_add, Nat.reduceEqDiff, q10, q_ne, true_or, or_true, hk1, hlt, e29, Nat.reduceLeDiff, and_self]
  intro d
  induction d with
  | zero =>
    intro t σ g I J l5 l6 l7 h1 h2 hI hc hs
    exact fin t σ g I J l5 l6 l7 (by omega) (by omega) hI hc hs
  | succ d ih =>
    intro t σ g I J l5 l6 l7 h1 h2 hI hc hs
    by_cases h : 5 * t + 5 ≤ L
    · refine law_step (P := fun r => ∃ g1 I1 J1, r = some (.inl (some (.int 1)), g1, I1, J1) ∧ hf_c g1 ≤ 601024 ∧ hf_s g1 ≤ 7293034) hI h hL ?_
      intro σ2 g2 I2 J2 m5 m6 m7 hI2 hb
      exact ih (t + 1) σ2 g2 I2 J2 m5 m6 m7 (by omega) (by omega) hI2 (by omega) (by omega)
    · exact fin t σ g I J l5 l6 l7 (by omega) (by omega) hI hc hs
theorem md_mk {kd : Nat × Nat} {m : Nat} (h : Md g) (hn : hf_n g = 292) : Md (hf_mk g kd m) := by
  have hk : ∀ a, a < 292 → hf_k (hf_mk g kd m) a = hf_k g a := fun a ha => if_neg (by omega)
  have hr : hf_r (hf_mk g kd m) 270 = hf_r g 270 := kw_ne (by omega)
  unfold Md at h ⊢
  rw [hr, hk 270 (by decide), hk 271 (by decide), hk 272 (by decide), hk 273 (by decide), hk 274 (by decide), hk 275 (by decide), hk 276 (by decide), hk 277 (by decide), hk 278 (by decide), hk 279 (by decide), hk 280 (by decide), hk 281 (by decide), hk 282 (by decide), hk 283 (by decide), hk 284 (by decide), hk 285 (by decide), hk 286 (by decide), hk 287 (by decide), hk 288 (by decide), hk 289 (by decide), hk 290 (by decide), hk 291 (by decide)]
  exact h
/-- the first state -/
def f00 : Nat → Nat := up (up (up (up (fun _ => 0) 4 100) 5 200) 6 2) 12 1000
def σ00 : Sg := sgR ((fun _ => 0), (fun _ _ => 0), (fun _ _ => 0), (fun _ _ => 0), (fun _ _ => 0), (fun _ _ => none), (fun _ => 0), (fun _ => 0), fun _ => 0) (unF f00 4) (unR 4)
theorem rng00 : Rng (unF f00 4) := ⟨by decide, rfl⟩
theorem sok00 : SOK σ00 := sok_b rng00 rfl (fun k hk => by
  obtain ⟨-, -, -, -, l5, l6⟩ := lat_ok 4 (by omega) (by omega) k hk
  exact ⟨l5, l6⟩)
theorem rc00 : RC σ00 (hxI (hf_i0 xs)) (hxJ hf_j0) := by
  refine RC_b rfl ⟨rfl, rfl, rfl, rfl, rfl, rfl, rfl, rfl, rfl, rfl, rfl, rfl, rfl, rfl, rfl, rfl, rfl⟩ (RC_sg ?_ rfl)
  intro k hk
  obtain ⟨h1, h2, h3, h4⟩ := lo_c (J := hf_j0) (s := 4) (by omega) (by omega) k hk
  unfold hxJ
  have e : ∀ a, a ≠ 238 → a ≠ 0 → a ≠ 13 → a ≠ 257 → hf_u (hf_u (hf_u (hf_u (hf_u (hf_u (hf_u (hf_u (hf_u (hf_u (loJ hf_j0 4) 238 0 0) 238 1 100) 0 7 200) 13 4 0) 13 5 0) 13 6 0) 257 7 0) 257 8 0) 257 9 1000) 257 11 0 a = loJ hf_j0 4 a := fun a h1 h2 h3 h4 => by
    rw [ku_ne h4, ku_ne h4, ku_ne h4, ku_ne h4, ku_ne h3, ku_ne h3, ku_ne h3, ku_ne h2, ku_ne h1, ku_ne h1]
  rw [e 4 (by decide) (by decide) (by decide) (by decide), e 6 (by decide) (by decide) (by decide) (by decide), e 8 (by decide) (by decide) (by decide) (by decide), e 10 (by decide) (by decide) (by decide) (by decide)]
  exact ⟨h1, h2, h3, h4⟩
theorem hxI_hi (h : 258 ≤ a) : hxI I a = I a := by
  unfold hxI
  rw [ku_ne (by omega), ku_ne (by omega), loI_n (by omega)]
theorem hxJ_hi (h : 258 ≤ a) : hxJ J a = J a := by
  unfold hxJ
  rw [ku_ne (by omega), ku_ne (by omega), ku_ne (by omega), ku_ne (by omega), ku_ne (by omega), ku_ne (by omega), ku_ne (by omega), ku_ne (by omega), ku_ne (by omega), ku_ne (by omega), loJ_n (by omega)]
theorem rm00 (h0 : I 270 = fun _ => 0) : RM σ00 (mbI (mdI I)) (mbJ J) := by
  refine RM_b rfl ?_ (RM_sg (lo_m (by omega) (by omega)))
  unfold mbI
  rw [w2_n (by decide) (by decide)]
  exact hq_u (hq_u (hq_u (hq_u (hq_u (hq_u (hq_u (hq_u (fun i hi => by rw [h0]; rfl))))))))
theorem mb_lo (h : a < 270 ∨ 292 ≤ a) : mbI (mdI I) a = I a ∧ mbJ J a = J a := by
  unfold mbI mbJ bgI mdI
  refine ⟨?_, w2_n (by omega) (by omega)⟩
  rw [w2_n (by omega) (by omega), ku_ne (by omega), ku_ne (by omega), ku_ne (by omega), ku_ne (by omega), ku_ne (by omega), ku_ne (by omega), ku_ne (by omega), ku_ne (by omega)]
theorem hf_pure (L : Nat) (hL : L ≤ 2560) (xs : Nat → Int32) : ∃ (n : Nat) (g1 : hf_G) (I1 : hf_I) (J1 : hf_J), hf_ex n 254 0 (hf_ent 8 [.ref 1000001]) [] (hf_g0 L) (hf_i0 xs) hf_j0 = some (.inl (some (.int 1)), g1, I1, J1) ∧ hf_c g1 ≤ 601024 ∧ hf_s g1 ≤ 7293034 := by
  have Z0 : Zr (hf_i0 xs) hf_j0 0 := fun a _ ha => ⟨by funext j; show (if a = 1000001 then xs j else if a = 1000002 then hf_wave j else 0) = 0; rw [if_neg (by omega), if_neg (by omega)], rfl⟩
  obtain ⟨g2, r2, x2, n2, e2, ⟨hHx, hAl, hPu, hJo, hUn, hSk⟩, c2, s2⟩ := k_Hx (g := hf_g0 L) (I := hf_i0 xs) (J := hf_j0) rfl rfl Z0
  have Z2 : Zr (hxI (hf_i0 xs)) (hxJ hf_j0) 270 := fun a h1 ha => ⟨(hxI_hi (by omega)).trans (Z0 a (by omega) ha).1, (hxJ_hi (by omega)).trans (Z0 a (by omega) ha).2⟩
  obtain ⟨g3, r3, x3, n3, e3, hMd, c3, s3⟩ := k_Md (g := g2) e2 n2 Z2
  have Z3 : Zr (mbI (mdI (hxI (hf_i0 xs)))) (mbJ (hxJ hf_j0)) 292 := fun a h1 ha => ⟨(mb_lo (J := hf_j0) (Or.inr h1)).1.trans (Z2 a (by omega) ha).1, (mb_lo (I := hxI (hf_i0 xs)) (Or.inr h1)).2.trans (Z2 a (by omega) ha).2⟩
  have x34 : Ex g3 (hf_mk g3 (3, 1) 1) := ex_mk (by omega)
  have x24 : Ex g2 (hf_mk g3 (3, 1) 1) := x3.t x34
  have x04 : Ex (hf_g0 L) (hf_mk g3 (3, 1) 1) := x2.t x24
  have sm : same g2 (hf_mk g3 (3, 1) 1) 0 270 := x24.same (by omega)
  have k01 : hf_k (hf_mk g3 (3, 1) 1) 1000001 = (6, L) := (x04.2 1000001 (Or.inr (by omega))).1
  have k02 : hf_k (hf_mk g3 (3, 1) 1) 1000002 = (6, 16) := (x04.2 1000002 (Or.inr (by omega))).1
  have hLay : Lay (hf_mk g3 (3, 1) 1) := ⟨⟨hHx.cg sm (by omega) (by omega), hAl.cg sm (by omega) (by omega), hPu.cg sm (by omega) (by omega), hJo.cg sm (by omega) (by omega), hUn.cg sm (by omega) (by omega), hSk.cg sm (by omega) (by omega), md_mk hMd n3⟩, by
    show hf_n g3 + 1 = 293
    omega, k02⟩
  have m1 : ∀ a, 1000000 ≤ a → mbI (mdI (hxI (hf_i0 xs))) a = hf_i0 xs a := fun a ha => (mb_lo (J := hf_j0) (Or.inr (by omega))).1.trans (hxI_hi (by omega))
  have hLI : LI L xs σ00 (hf_mk g3 (3, 1) 1) (mbI (mdI (hxI (hf_i0 xs)))) (mbJ (hxJ hf_j0)) := by
    refine ⟨sok00, hLay, ⟨k02, ?_⟩, RC_fr (sok_P sok00) (rc00 (xs := xs)) ⟨fun a j ha => ?_, fun a ha => ?_⟩, rm00 ?_, k01, ?_, ?_⟩
    · rw [m1 1000002 (by omega)]; rfl
    · rw [(mb_lo (J := hf_j0) (Or.inl (by unfold scI at ha; omega))).1]
    · exact (mb_lo (I := hxI (hf_i0 xs)) (Or.inl (by unfold scJ at ha; omega))).2
    · exact (Z2 270 (by omega) (by omega)).1
    · rw [← n3]; exact mk_k
    · rw [m1 1000001 (by omega)]; rfl
  have c4 : hf_c (hf_mk g3 (3, 1) 1) = 293 := by
    show hf_c g3 + 1 = 293
    have : hf_c (hf_g0 L) = 0 := rfl
    omega
  have s4 : hf_s (hf_mk g3 (3, 1) 1) = 26195 := by
    show hf_s g3 + 1 = 26195
    have : hf_s (hf_g0 L) = 0 := rfl
    omega
  obtain ⟨g1, I1, J1, hr, hc, hs⟩ := law_run hL 513 0 σ00 _ _ _ none none none (by omega) (by omega) hLI (by omega) (by omega)
  have hn0 : hf_n (hf_g0 L) = 0 := rfl
  have he0 : hf_e (hf_g0 L) = true := rfl
  have run : hf_rn 254 0 [some (.ref 1000001), none, none, none, none, none, none, none] [] (hf_g0 L) (hf_i0 xs) hf_j0 = some (.inl (some (.int 1)), g1, I1, J1) := by
    rw [show nI (5 * 0) = 0 from rfl] at hr
    simp only [s254_0, s254_3, s254_4, s254_7, s254_8, s254_11, s254_12, s254_15, s254_16, s254_17, s254_19, s254_20, s254_21, hf_bd_v, hf_bd_n, hf_iv_i, hf_iv_l, hf_iv_a, hf_iv_n, hf_iv_2, z_lgl, z_lgg, z_lge, z_lgle, z_lgz, Option.getD_some, Option.isSome_some, ↓reduceIte, not_true_eq_false, not_false_eq_true, Option.toList_some, Option.toList_none, List.cons_append, List.nil_append, Nat.reduceAdd, Nat.add_assoc, ku_ne, ku_same, ne_eq, Nat.reduceEqDiff, reduceCtorEq, Nat.add_eq_left, Nat.left_eq_add, Nat.reduceEqDiff, q10, q_ne, true_or, or_true, hn0, he0, show (0 : Nat) < 1000000 by omega, Z0.wI (show 0 ≤ 0 by omega) (by omega), Z0.wJ (show 0 ≤ 0 by omega) (by omega), r2, n2, e2, show (270 : Nat) < 1000000 by omega, Z2.wI (show 270 ≤ 270 by omega) (by omega), Z2.wJ (show 270 ≤ 270 by omega) (by omega), r3, n3, e3, show (292 : Nat) < 1000000 by omega, Z3.wI (show 292 ≤ 292 by omega) (by omega), Z3.wJ (show 292 ≤ 292 by omega) (by omega), show ((1 : Int32) < 0) = False from eq_false (by decide), show (1 : Int32).toNatClampNeg = 1 from by decide, Nat.reduceLeDiff, and_self]
    exact hr
  obtain ⟨n, hn⟩ := hf_rn_ex run
  exact ⟨n, g1, I1, J1, hn, hc, hs⟩
end
