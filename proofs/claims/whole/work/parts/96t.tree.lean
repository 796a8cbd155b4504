section
variable {σ : Sg} {I I2 : hf_I} {J J2 : hf_J} {g : hf_G} {c k f l p n P t q e o m z : Nat} {i j x y : Int32}
theorem RM_sh2 {H B : Nat → Int32} (hσ : SOK σ) (hM : RM σ I J) : RM σ (w2 (thI I 0) 280 282 H B) J ∧ w2 (thI I 0) 280 282 H B 270 38 = 0 ∧ kM I (w2 (thI I 0) 280 282 H B) J J := by
  refine ⟨RM_fr (sok_P hσ) (sok_N hσ).2 hM ⟨fun a b ha => ?_, fun _ _ => rfl⟩, ?_, fun a ha => ⟨?_, rfl⟩⟩
  · rw [w2_n (by unfold quI at ha; omega) (by unfold quI at ha; omega), th_q ha]
  · rw [w2_n (by decide) (by decide), th_38]
  · rw [w2_n (by omega) (by omega), th_r (by omega)]
theorem nxS_none (hσ : SOK σ) (hp : p < sP σ) (hk : sC σ p ≤ k) (hk2 : k < 64) : nxS σ p k = none := by
  rw [nxS_z hσ hk2]
  exact nxZ_none fun j hj q => by have := sok_H hσ hp hj q; omega
theorem nxM_f (hσ : SOK σ) (hM : RM σ I J) : ∀ m o, m < sP σ → o < 64 → nxM I (sP σ) (sN σ) m o = nxS σ m o := fun m o _ ho => nxM_S hσ hM ho
/-- what goes on in what, for halos only -/
def nxC (σ : Sg) : Nat → Nat → Option (Nat × Nat) := fun m o => if m < sP σ ∧ o < sC σ m then nxS σ m o else none
theorem nxC_k (hm : m < sP σ) (ho : o < sC σ m) : nxC σ m o = nxS σ m o := if_pos ⟨hm, ho⟩
theorem nxC_lt (hσ : SOK σ) {a b : Nat} (h : nxC σ m o = some (a, b)) : m < a ∧ a < 12 ∧ b < 64 ∧ a ≤ m + 2 ∧ a < sP σ ∧ b < sC σ a := by
  unfold nxC at h
  by_cases c1 : m < sP σ ∧ o < sC σ m
  · rw [if_pos c1] at h
    have h1 := sok_C hσ c1.1
    obtain ⟨b1, b2, b3⟩ := nxS_lt hσ (by omega) h
    have h2 := sok_C hσ b2
    have hP := sok_P hσ
    rw [nxS_z hσ (by omega)] at h
    have := nxZ_2 h
    omega
  · rw [if_neg c1] at h; cases h
theorem cnF_cong {nx nx2 : Nat → Nat → Option (Nat × Nat)} {cn : Nat → Nat} {al : Bool} : ∀ m, (∀ e o, e < m → o < cn e → nx e o = nx2 e o) → ∀ q, cnF nx cn al m q = cnF nx2 cn al m q
  | 0, _, _ => rfl
  | m + 1, h, q => by
    rw [cnF, cnF]
    have e1 : ctI nx al m q (cn m) = ctI nx2 al m q (cn m) := it_cong fun k s hk => by
      have : ∀ B, isB nx B m k = isB nx2 B m k := fun B => by rw [isB, isB, h m k (by omega) hk]
      rw [this]
    rw [e1]
    exact cnF_cong m (fun e o he ho => h e o (by omega) ho) _
theorem tsR_cong {nx nx2 : Nat → Nat → Option (Nat × Nat)} {cn : Nat → Nat} : ∀ m, (∀ e o, e < m → o < cn e → nx e o = nx2 e o) → ∀ R s, tsR cn nx m R s = tsR cn nx2 m R s
  | 0, _, _, _ => rfl
  | m + 1, h, R, s => by
    rw [tsR, tsR]
    have e1 : orL (cn m) (ldP nx R m) = orL (cn m) (ldP nx2 R m) := it_cong fun k s hk => by
      have : ldP nx R m k = ldP nx2 R m k := by rw [ldP, ldP, h m k (by omega) hk]
      rw [this]
    rw [e1]
    exact tsR_cong m (fun e o he ho => h e o (by omega) ho) _ _
theorem hmZ_cong {nx nx2 : Nat → Nat → Option (Nat × Nat)} {u : Int} {v : Int32} {t : Nat} (h : ∀ o, o < t → nx u.toNat o = nx2 u.toNat o) : hmZ nx p k u v t = hmZ nx2 p k u v t := it_cong fun o s ho => by rw [h o ho]
theorem hmA_cong {nx nx2 : Nat → Nat → Option (Nat × Nat)} {cn : Nat → Nat} (h : ∀ e o, e < n → o < cn e → nx e o = nx2 e o) : hmA n cn nx p k = hmA n cn nx2 p k := by
  have key : ∀ (u : Int) (v : Int32), hmZ nx p k u v (ctZ n cn u) = hmZ nx2 p k u v (ctZ n cn u) := fun u v => by
    by_cases c1 : 0 ≤ u ∧ u < n
    · refine hmZ_cong fun o ho => ?_
      unfold ctZ at ho
      rw [if_pos c1] at ho
      exact h _ o (by omega) ho
    · have : ctZ n cn u = 0 := if_neg c1
      rw [this]
      rfl
  unfold hmA
  rw [key, key]
def trS (σ : Sg) (p k m : Nat) : Int32 := if m = 0 then nI (chN (frS σ) (p + 1) p k) else if m = 1 then nI (cnZ (nxC σ) (sC σ) false p (oneS p k) 0) else nI (cnZ (nxC σ) (sC σ) true p (oneS p k) 1)
theorem frS_lt (h : frS σ p k = some (e, o)) : e < p ∧ o < sC σ e := frM_k h
theorem brS_c (hσ : SOK σ) (hC : RC σ I J) (hp : p < sP σ) (hk : k < sC σ p) : brA (sP σ) (sC σ) (fun i => J (34 + 17 * i + 12)) (nxS σ) p k = trS σ p k 0 := by
  have hP := sok_P hσ
  have h1 := ch_eq (F := fun e o => frA (sP σ) (sC σ) (fun i => J (34 + 17 * i + 12)) (nxS σ) e o) (fr := frS σ) (cn := sC σ) (P := sP σ) (fun e o he ho => frS_c hσ hC he ho) (fun e o j x _ _ h => frS_lt h) hP (fun e he => sok_C hσ he) 12 p k 0 (by omega) hp hk
  have h2 := ch_fuel (fr := frS σ) (fun e o j x h => (frS_lt h).1) 12 (p + 1) p k (by omega) (by omega)
  rw [h2] at h1
  exact h1.trans (Int32.zero_add _)
theorem chN_cong {f1 f2 : Nat → Nat → Option (Nat × Nat)} {cn : Nat → Nat} (h : ∀ e o, e < P → o < cn e → f1 e o = f2 e o) (hf : ∀ e o j x, f2 e o = some (j, x) → j < e ∧ x < cn j) : ∀ (n e o : Nat), e < P → o < cn e → chN f1 n e o = chN f2 n e o
  | 0, _, _, _, _ => rfl
  | n + 1, e, o, he, ho => by
    rw [chN, chN, h e o he ho]
    cases h3 : f2 e o with
    | none => rfl
    | some w =>
      obtain ⟨a, b⟩ := w
      obtain ⟨h1, h2⟩ := hf e o a b h3
      dsimp only
      rw [chN_cong h hf n a b (by omega) h2]
theorem brS_m (hσ : SOK σ) (hM : RM σ I J) (n : Nat) (hp : p < sP σ) (hk : k < sC σ p) : chN (fun e o => frM (sC σ) (nxM I (sP σ) (sN σ)) (cmM I (sN σ) e o) e o) n p k = chN (frS σ) n p k :=
  chN_cong (P := sP σ) (cn := sC σ) (fun e o he ho => frS_m hσ hM he ho) (fun e o j x h => frS_lt h) n p k hp hk
theorem tr_m (hσ : SOK σ) (hM : RM σ I J) (hp : p < sP σ) (hk : k < sC σ p) {al : Bool} {O : Nat → Int32} : cnF (nxM I (sP σ) (sN σ)) (sC σ) al p ((fun j => if j < 768 then bI (decide (j = 64 * p + k)) else O j), nI z) = nI (cnZ (nxC σ) (sC σ) al p (oneS p k) z) := by
  have hP := sok_P hσ
  have hkc := sok_C hσ hp
  rw [cnF_cong (nx2 := nxC σ) p (fun e o he ho => by have := sok_C hσ (show e < sP σ by omega); rw [nxC_k (by omega) ho, nxM_S hσ hM (by omega)])]
  refine cn_m (p := p) (fun m o j h hm ho hh => ⟨(nxC_lt hσ hh).1, (nxC_lt hσ hh).2.1, (nxC_lt hσ hh).2.2.1⟩) (fun m o hm ho => if_neg (by omega)) (fun m hm => sok_C hσ (by omega)) p (Nat.le_refl _) (by omega) _ _ _ fun j h hj hh => ?_
  rw [if_pos (by omega)]
  unfold oneS
  by_cases c1 : j = p ∧ h = k
  · rw [decide_eq_true (show 64 * j + h = 64 * p + k by omega), decide_eq_true c1]
    rfl
  · rw [decide_eq_false (show ¬ 64 * j + h = 64 * p + k by omega), decide_eq_false c1]
    rfl
theorem ts_cS (hσ : SOK σ) (hp : p < sP σ) (hk : k < sC σ p) {O : Nat → Int64} : (tsR (sC σ) (nxS σ) p (up (fun j => if j < 12 then 0 else O j) p (bitL k)) 1).2 = nI (cnZ (nxC σ) (sC σ) true p (oneS p k) 1) := by
  have hP := sok_P hσ
  have hkc := sok_C hσ hp
  rw [tsR_cong (nx2 := nxC σ) p (fun e o he ho => (nxC_k (by omega) ho).symm)]
  refine ts_c (p := p) (fun m o j h hm ho hh => ⟨(nxC_lt hσ hh).1, (nxC_lt hσ hh).2.1, (nxC_lt hσ hh).2.2.1⟩) (fun m hm => sok_C hσ (by omega)) p (Nat.le_refl _) _ _ _ (fun j h h1 h2 h3 => ?_) (fun j h hj => ?_)
  · unfold oneS
    by_cases c1 : j = p
    · subst c1
      rw [up_s, bt_bit h3 (by omega)]
      exact decide_eq_decide.mpr ⟨fun q => ⟨rfl, q⟩, fun q => q.2⟩
    · rw [up_n c1, if_pos h2, bt_0 h3, decide_eq_false (fun q => c1 q.1)]
  · exact decide_eq_false (by omega)
theorem agr_tree (hσ : SOK σ) : agr 1 cdIA σ (fun g I J => hf_rn 127 0 [some (.ref 0), some (.int i), some (.int j), some (.int x)] [] g I J) (fun g I J => hf_rn 205 0 [some (.ref 270), some (.int i), some (.int j), some (.int x), none] [] g I J) := by
  have hb : inI x.toInt64 0 2 = rgB 0 2 x := rgB_in (by decide) (by decide)
  by_cases hx : isK σ i j
  · obtain ⟨p, k, hp, hk, rfl, rfl⟩ := hx
    by_cases hr : rgB 0 2 x = true
    · have hi := hb.trans hr
      obtain ⟨m, -, m2, rfl⟩ := rgB_t (by decide) (by decide) hr
      refine Or.inl ⟨σ, some (.int (trS σ p k m)), hσ, ⟨_, rfl⟩, fun g I J hL hW hC => ?_, fun g I J hL hM => ?_⟩
      · have hB := RC_alb hσ hL hC
        have : m = 0 ∨ m = 1 ∨ m = 2 := by omega
        rcases this with rfl | rfl | rfl
        · have hr := c_tree0 (lay_hx hL) (lay_n hL) hB hp hk
          rw [brS_c hσ hC hp hk] at hr
          exact cOK_0 hC hr
        · have hr := c_tree1 (lay_hx hL) (lay_n hL) hB hp hk
          rw [hmA_cong (nx2 := nxC σ) (fun e o he ho => (nxC_k he ho).symm), hm_c hp (fun m o a b h => (nxC_lt hσ h).2.2.2.1)] at hr
          exact cOK_0 hC hr
        · have hr := c_tree2 (lay_hx hL) (lay_n hL) hB hp hk
          rw [ts_cS hσ hp hk] at hr
          exact ⟨_, _, hr, RC_fr (sok_P hσ) hC ⟨fun _ _ _ => rfl, fun r hr => kw_ne (by unfold scJ at hr; omega)⟩, kCC (fun _ _ => rfl) (fun r hr => kw_ne (by omega))⟩
      · have hD := RM_mdp hσ hM
        have : m = 0 ∨ m = 1 ∨ m = 2 := by omega
        rcases this with rfl | rfl | rfl
        · obtain ⟨H, -, hr⟩ := m_tree0 (J := J) (lay_md hL) hD hp hk hi
          rw [brS_m hσ hM (p + 1) hp hk] at hr
          obtain ⟨h1, h2, h3⟩ := RM_sh (H := H) hσ hM (Or.inl rfl)
          exact ⟨_, _, hr, h1, h2, h3⟩
        · obtain ⟨H, B, -, hr⟩ := m_tree1 (J := J) (lay_md hL) hD hp hk hi
          have e := tr_m (z := 0) (al := false) (O := I 282) hσ hM hp hk
          rw [show bI false = nI 0 from rfl, e] at hr
          obtain ⟨h1, h2, h3⟩ := RM_sh2 (H := H) (B := B) hσ hM
          exact ⟨_, _, hr, h1, h2, h3⟩
        · obtain ⟨H, B, -, hr⟩ := m_tree2 (J := J) (lay_md hL) hD hp hk hi
          have e := tr_m (z := 1) (al := true) (O := I 282) hσ hM hp hk
          rw [show bI true = nI 1 from rfl, e] at hr
          obtain ⟨h1, h2, h3⟩ := RM_sh2 (H := H) (B := B) hσ hM
          exact ⟨_, _, hr, h1, h2, h3⟩
    · exact Or.inr ⟨1, some (.int 0), Or.inl rfl, (by decide : ¬ cdIA 1 = 0), ⟨_, rfl⟩, fun g I J hL hW hC => cEX_0 hC (c_treeX1 (lay_hx hL) (lay_n hL) (RC_alb hσ hL hC) hp hk (rgB_f hr)), fun g I J hL hM => mOK_th hσ hM (m_treeX (lay_md hL) true (m_isOldT (lay_md hL) (RM_mdp hσ hM) hp hk) (by rw [hb, Bool.eq_false_iff.mpr hr]; rfl))⟩
  · exact Or.inr ⟨3, some (.int 0), Or.inr (Or.inr rfl), (by decide : ¬ cdIA 3 = 0), ⟨_, rfl⟩, fun g I J hL hW hC => cEX_0 hC (c_treeX (lay_hx hL) (nx_ok hσ hL hC hx)), fun g I J hL hM => mOK_th hσ hM (m_treeX (lay_md hL) false (mo_ok hσ hL hM hx) rfl)⟩
end
