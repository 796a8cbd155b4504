theorem hf_hx_all : (List.range 256).all (fun y => (hf_hh y).all fun h => decide (h.2.2.2 ≠ 0) && [1, 2, 3].any fun x => decide (hf_cl (hf_oc y) h.2.2.2 = some (100 + x))) = true := by decide +kernel
theorem hf_hx_of {y : Nat} {h : Nat × Nat × Nat × Nat} (hm : h ∈ hf_hh y) : h.2.2.2 ≠ 0 ∧ ∃ x, 1 ≤ x ∧ x ≤ 3 ∧ hf_cl (hf_oc y) h.2.2.2 = some (100 + x) := by
  have hy : y < 256 := by
    rcases Nat.lt_or_ge y 256 with q | q
    · exact q
    · exfalso
      have e : hf_m y = hf_m0 := by
        have : hf_mt (y / 16) = [] := by
          unfold hf_mt
          split <;> first | rfl | omega
        rw [hf_m, this]
        rfl
      rw [hf_hh, e] at hm
      cases hm
  have h1 := List.all_eq_true.mp (List.all_eq_true.mp hf_hx_all y (List.mem_range.mpr hy)) h hm
  simp only [Bool.and_eq_true, decide_eq_true_eq, List.any_eq_true] at h1
  obtain ⟨h1, x, hx, h2⟩ := h1
  simp only [List.mem_cons, List.not_mem_nil, or_false] at hx
  exact ⟨h1, x, by omega, by omega, h2⟩
theorem hf_cast_all : ([1, 2, 3].all fun x => decide (Jvm.Cond.castable (hf_en x) (hf_en x) ∈ tables_1)) = true := by decide +kernel
theorem hf_cast_of {x : Nat} (h1 : 1 ≤ x) (h2 : x ≤ 3) : Jvm.Cond.castable (hf_en x) (hf_en x) ∈ hf_nw := by
  have hx : x ∈ [1, 2, 3] := by simp; omega
  have h := List.all_eq_true.mp hf_cast_all x hx
  simp only [decide_eq_true_eq] at h
  exact List.mem_filter.mpr ⟨List.mem_append_right _ h, rfl⟩
theorem hf_clk {o ix x : Nat} (h : hf_cl o ix = some (100 + x)) : .classLink (hf_on o) ix (hf_en x) ∈ hf_ts := by
  obtain ⟨a, b, hok⟩ := hf_cl_ok h
  rw [hf_clok, if_neg (by omega), show 100 + x - 100 = x by omega] at hok
  simp only [Bool.and_eq_true, decide_eq_true_eq] at hok
  exact hf_has_ts hok.2
theorem hf_kl_LR {w : hf_W} {ls1 : Array Slot} {nL k : Nat} {L : hf_Lo} {v : Value} (hlen : L.length = nL) (h1 : lv_has ls1 nL ((k, v) :: (hf_en2 w 0 L).filter (fun q => !(q.1 == k) && !(q.1 + 1 == k && q.2.category == 2)))) : hf_LR w ls1 nL (hf_kl L k) := by
  refine ⟨by rw [hf_kl, List.length_set, hf_s1_len]; exact hlen, h1.1, h1.2.1, fun j x hx => ?_⟩
  unfold hf_kl at hx
  by_cases hj : j = k
  · subst hj
    rcases Nat.lt_or_ge j (hf_s1 L j (.int 0)).length with q | q
    · rw [List.getElem?_set_self q] at hx
      cases hx
    · rw [List.getElem?_eq_none (by rw [List.length_set]; exact q)] at hx
      cases hx
  · rw [List.getElem?_set_ne (fun q => hj q.symm)] at hx
    rcases hf_s1_get L k _ j x hx with ⟨a, -⟩ | ⟨a, b, d⟩
    · exact absurd a hj
    · refine h1.2.2 (j, hf_tv w x) (List.mem_cons_of_mem _ (List.mem_filter.mpr ⟨hf_en2_mem.mpr ⟨j, x, b, by simp⟩, ?_⟩))
      simp only [hf_tv_cat]
      by_cases c1 : j + 1 = k
      · have : ¬ x.category = 2 := fun q => d ⟨c1, q⟩
        simp [a, this]
      · simp [a, c1]
theorem hf_ok : ∀ n, hf_Ok n
  | 0 => fun w mi p l e R s m args below meth c c0 s0 pc L st g I J fin hC h => by simp [hf_ex] at h
  | n + 1 => by
    have ih := hf_ok n
    intro w mi p l e R s m args below meth c c0 s0 pc L st g I J fin hC h hbc hbs hc0 hs0
    have hgr := hf_ex_grow _ _ _ _ _ _ _ _ _ h
    rw [hf_ex] at h
    cases es : hf_stp mi pc L st g I J with
    | none => rw [es] at h; cases h
    | some o =>
      rw [es] at h
      have es2 := es
      unfold hf_stp at es
      split at es
      · rename_i i len hd
        split at es
        · rename_i hlen
          match o, es, es2, h with
          | .inl (pc1, L1, st1, g1, I1, J1), es, es2, h =>
            dsimp only at h
            have g1le := hf_stp_le1 es2
            have g2le := hf_ex_grow _ _ _ _ _ _ _ _ _ h
            exact hf_local hC hd hlen es (Nat.le_trans g2le.1 hbc) (Nat.le_trans g2le.2.1 hbs) (ih w mi p l e R s m args below meth c c0 s0 pc1 L1 st1 g1 I1 J1 fin hC h hbc hbs (Nat.le_trans hc0 g1le.1) (Nat.le_trans hs0 g1le.2.1))
          | .inr (.inr r), es, es2, h =>
            cases h
            obtain ⟨v, g1, I1, J1⟩ := fin
            rcases v with v | x
            · exact hf_end hC hd hlen es
            · obtain ⟨ix, rfl⟩ := hf_dthrow es
              have hlen : len = 3 := hlen
              subst hlen
              exact hl_throw hC hd es hbc hbs
          | .inr (.inl (y, as, rest)), es, es2, h =>
            dsimp only at h
            have hl3 : len = 3 := by
              obtain ⟨ix, hc⟩ := hf_dcall es
              rcases hc with ⟨rfl, -⟩ | ⟨rfl, -⟩ | ⟨rfl, -⟩ <;> exact hlen
            subst hl3
            cases e2 : hf_ex n y 0 (hf_ent (hf_nL y) as) [] g I J with
            | none => rw [e2] at h; cases h
            | some q =>
              rw [e2] at h
              have q1le := hf_ex_grow _ _ _ _ _ _ _ _ _ e2
              match q, e2, q1le, h with
              | (.inl v, g1, I1, J1), e2, q1le, h =>
                dsimp only at h q1le
                have g2le := hf_ex_grow _ _ _ _ _ _ _ _ _ h
                have k := ih w mi p l e R s m args below meth c c0 s0 (pc + 3) L (v.toList ++ rest) g1 I1 J1 fin hC h hbc hbs (Nat.le_trans hc0 q1le.1) (Nat.le_trans hs0 q1le.2.1)
                intro H locs ls cells slots hH hS hL hc hs hx T hT X
                have hr := hf_run ih hC hd es e2 (Nat.le_trans g2le.1 hbc) (Nat.le_trans g2le.2.1 hbs) hH hS hL hc hs hx hT X
                rcases hr T hT X with ⟨v9, st₀, t, T', L9, h0, X', hL9, e1, e3, ⟨v', hv1, hv2, hv3, hv4⟩, stp⟩ | ⟨q9, st₀, t, T', L9, E, ce, h0, X', hL9, e1, e3, ⟨x, hx1, -⟩, -⟩
                · cases hv1
                  obtain ⟨b1, b2, b3⟩ := vx_keep (A0 := hf_A w) (A1 := hf_A w) h0 e1 hS (fun _ _ z => z) (fun _ z => z) hL9 hv4
                  have hv5 : v9 = v.map (hf_tv w) := by cases hv2; rfl
                  have kk := k T'.heap (locs ++ L9) ls (cells + (hf_c g1 - hf_c g)) (slots + (hf_s g1 - hf_s g)) (by rw [e1]; exact hv3) b3 hL (by have := q1le.1; omega) (by have := q1le.2.1; omega) (fun z => by obtain ⟨z1, z2⟩ := q1le.2.2 z; have := hx z1; have := q1le.1; omega)
                  have estk : (v.toList ++ rest).map (hf_tv w) = v9.toList ++ rest.map (hf_tv w) := by rw [hv5]; cases v <;> simp
                  rw [estk] at kk
                  obtain ⟨t2, a1, b4⟩ := kk T' rfl X'
                  exact ⟨t2, stp t2 a1, b4⟩
                · cases hx1
              | (.inr x, g1, I1, J1), e2, q1le, h =>
                dsimp only at h q1le
                intro H locs ls cells slots hH hS hL hc hs hx T hT X
                have hcell1 : hf_c g1 ≤ R.cells + c0 ∧ hf_s g1 ≤ R.slots + s0 := by
                  split at h
                  · cases h
                    exact ⟨hbc, hbs⟩
                  · split at h
                    · cases h
                    · split at h
                      · have g2le := hf_ex_grow _ _ _ _ _ _ _ _ _ h
                        exact ⟨Nat.le_trans g2le.1 hbc, Nat.le_trans g2le.2.1 hbs⟩
                      · cases h
                have hr := hf_run ih hC hd es e2 hcell1.1 hcell1.2 hH hS hL hc hs hx hT X
                obtain ⟨hx0, hb, hrr, hml, hown, hts, hlk, htab, hnm, hfr, hlo, hKW, hst⟩ := id hC
                rcases hr T hT X with ⟨v9, st₀, t, T', L9, h0, X', hL9, e1, e3, ⟨v', hv1, -⟩, stp⟩ | ⟨q9, st₀, t, T', L9, E, ce, h0, X', hL9, e1, e3, ⟨x', hx1, hx2, hx3, hx4, hx5, hx6⟩, hce, hcv, hcl, stp⟩
                · cases hv1
                · cases hx1
                  obtain ⟨b1, b2, b3⟩ := vx_keep (A0 := hf_A w) (A1 := hf_A w) h0 e1 hS (fun _ _ z => z) (fun _ z => z) hL9 hx6
                  have hce' : T'.heap[q9]? = some ce := by rw [e1]; exact hce
                  have goal : vx_W p l e R s m args below meth c T'.heap (locs ++ L9) (cells + (hf_c g1 - hf_c g)) (slots + (hf_s g1 - hf_s g)) (vx_MQ below (hf_Qc w fin) (hf_XC w fin) args s (hf_c fin.2.1 - c0) (hf_s fin.2.1 - s0) (hf_A w)) (F0 m pc ls (rest.map (hf_tv w))) q9 := by
                    by_cases hh : hf_hh mi = []
                    · rw [if_pos hh] at h
                      cases h
                      refine vx_out (fun z hz => ?_) hlk hce' hcv hcl (fun t9 ht9 _ => ⟨x, rfl, hx2, hx3, hx4, by rw [ht9, e1]; exact hx5, by rw [ht9]; exact b3.1, fun q h1 h2 => by rw [ht9]; exact b3.2.1 q h1 h2⟩) b3.2.2 (by have := q1le.1; dsimp only; omega) (by have := q1le.2.1; dsimp only; omega)
                      rw [htab, hh] at hz
                      cases hz
                    · rw [if_neg hh] at h
                      split at h
                      · cases h
                      · rename_i pc1 k hhd
                        split at h
                        · rename_i hkl
                          have k9 := ih w mi p l e R s m args below meth c c0 s0 pc1 (hf_kl L k) [] g1 I1 J1 fin hC h hbc hbs (Nat.le_trans hc0 q1le.1) (Nat.le_trans hs0 q1le.2.1)
                          have fin9 : ∀ ls1 : Array Slot, lv_has ls1 (hf_nL mi) ((k, .ref q9) :: (hf_en2 w 0 L).filter (fun q => !(q.1 == k) && !(q.1 + 1 == k && q.2.category == 2))) → W p l e R s m args below meth c T'.heap (locs ++ L9) (cells + (hf_c g1 - hf_c g)) (slots + (hf_s g1 - hf_s g)) (vx_MQ below (hf_Qc w fin) (hf_XC w fin) args s (hf_c fin.2.1 - c0) (hf_s fin.2.1 - s0) (hf_A w)) (F0 m pc1 ls1 []) := fun ls1 hl1 =>
                            k9 T'.heap (locs ++ L9) ls1 (cells + (hf_c g1 - hf_c g)) (slots + (hf_s g1 - hf_s g)) (by rw [e1]; exact hx5) b3 (hf_kl_LR hL.1 hl1) (by have := q1le.1; omega) (by have := q1le.2.1; omega) (fun z => by obtain ⟨z1, z2⟩ := q1le.2.2 z; have := hx z1; have := q1le.1; omega)
                          unfold hf_hd at hhd
                          split at hhd
                          · rename_i hnd hfind
                            obtain ⟨hp, as9, bs9, hsplit, hnot⟩ := List.find?_eq_some_iff_append.mp hfind
                            simp only [Bool.and_eq_true, decide_eq_true_eq] at hp
                            have hm9 : hnd ∈ hf_hh mi := by rw [hsplit]; simp
                            have hkn : hnd.2.2.2 ≠ 0 := (hf_hx_of hm9).1
                            have hlink := hts _ (hf_clk hp.2)
                            have hcast := va_Nw.use (A := args) (hf_isN_tab (q := .castable (hf_en x) (hf_en x)) rfl) (hKW.2.2.2.2.2.2.2.2.1 _ (hf_cast_of hx2 hx3))
                            rw [hx4] at hcl
                            refine vx_catch (E := hf_en x) (name := hf_en x) hown (tableOf as9) ⟨hnd.1, hnd.2.1, hnd.2.2.1, hnd.2.2.2⟩ (tableOf bs9) (by rw [htab, hsplit]; simp [tableOf]) (fun z hz => ?_) (by simp [covers, hp.1.1, hp.1.2]) hkn hlink hcast hce' hcv hcl ?_
                            · unfold tableOf at hz
                              obtain ⟨zz, hzz, rfl⟩ := List.mem_map.mp hz
                              have hzm : zz ∈ hf_hh mi := by rw [hsplit]; exact List.mem_append_left _ hzz
                              obtain ⟨c1, x9, c2, c3, c4⟩ := hf_hx_of hzm
                              have hn9 := hnot zz hzz
                              simp only [Bool.not_eq_true', Bool.and_eq_false_iff, decide_eq_false_iff_not] at hn9
                              rcases hn9 with hn9 | hn9
                              · left
                                simp only [covers]
                                simpa using hn9
                              · right
                                refine ⟨c1, hf_en x9, hts _ (hf_clk c4), hKW.2.2.2.2.2.2.2.2.2.1 x x9 hx2 hx3 c2 c3 (fun q => hn9 (by rw [c4, q]))⟩
                            · dsimp only
                              split at hhd
                              · rename_i k1 hd1
                                cases hhd
                                exact lv_astore hx0 hb hd1 hL.has (by rw [← hL.1]; exact hkl) rfl fin9
                              · rename_i k1 hd1
                                cases hhd
                                exact lv_astore_n hx0 hb hd1 rfl hL.has (by rw [← hL.1]; exact hkl) rfl fin9
                              · cases hhd
                          · cases hhd
                        · cases h
                  obtain ⟨t2, a1, b4⟩ := goal T' rfl X'
                  exact ⟨t2, stp.trans a1, b4⟩
        · cases es
      · cases es
