/-! HALOS OF A SLOT ON BOTH SIDES -/
theorem lst {P : Nat → Prop} (n : Nat) : P n → ∃ m, P m ∧ ∀ y, P y → m ≤ y := by
  induction n using Nat.strongRecOn with
  | ind n ih =>
    intro h
    by_cases q : ∃ y, y < n ∧ P y
    · obtain ⟨y, y1, y2⟩ := q
      exact ih y y1 y2
    · exact ⟨n, h, fun y hy => Nat.le_of_not_lt fun c => q ⟨y, c, hy⟩⟩
section
variable {σ : Sg} {c l n n2 a b s h x k t S p : Nat} {M ld ld2 : Nat → Nat} {L : Nat → Nat → Bool} {I I2 : hf_I} {J J2 : hf_J} {g : hf_G} {R R2 : Nat → Option Nat} {X Y H : Nat → Int64} {v : Int64} {i j z : Int32}

theorem mkd_ex (L : Nat → Nat → Bool) (c : Nat) : ∃ M, mkd L c M := by
  have key : ∀ k, ∃ m, cnx L c k m ∧ ∀ y, cnx L c k y → m ≤ y := fun k => lst k cnx_r
  refine ⟨fun k => Classical.choose (key k), fun k _ => ⟨(Classical.choose_spec (key k)).2 k cnx_r, (Classical.choose_spec (key k)).1⟩, fun a b ha hb hab => ?_⟩
  cases hl : L a b
  · rfl
  · have h1 := (Classical.choose_spec (key b)).1
    have h2 := (Classical.choose_spec (key a)).2 (Classical.choose (key b)) (fun S hS hc => h1 S (hc a b ha hb hS hl) hc)
    have h3 : Classical.choose (key b) < Classical.choose (key a) := hab
    omega
theorem En_ex (hc2 : c ≤ 64) (hs : ∀ a b, a < c → b < c → L a b = L b a) (hl1 : 1 ≤ l) : ∃ R n, EnH L c l R n ∧ n ≤ 64 := by
  obtain ⟨M, h⟩ := mkd_ex L c
  obtain ⟨R, r1, -, -, r4⟩ := hz_En (F := fun j => nI (M j)) (B := fun x => nI (szM M c x)) (O := fun _ => 0) hc2 h hs hl1 (fun _ _ => rfl) (fun _ _ => rfl)
  exact ⟨R, _, r1, r4⟩
/-- what the class finds are these -/
theorem fh_En (hc2 : c ≤ 64) (hl : l ≤ 64) (hs : ∀ a b, a < c → b < c → L a b = L b a) (hL : ∀ a b, a < c → b < c → nrL X Y v a b = L a b) (hE : EnH L c l R n) : (fhF c X Y v (nI l) H c).2.1 = n ∧ ∀ h x, h < n → x < 64 → btL ((fhF c X Y v (nI l) H c).2.2 h) x = decide (x < c ∧ R x = some h) := by
  obtain ⟨M, ld, m1, a1, a2, a3, a4⟩ := hE
  have m2 : mkd (nrL X Y v) c M := mkd_cong (fun a b ha hb => (hL a b ha hb).symm) m1
  obtain ⟨ld2, v1, v2, v3, v4⟩ := fhF_V (H := H) hc2 hl m2 (fun a b ha hb => by rw [hL a b ha hb, hL b a hb ha, hs a b ha hb]) c (Nat.le_refl _)
  generalize fhF c X Y v (nI l) H c = p at v1 v2 v3 v4
  have P1 : ∀ h, h < n → ld h < c ∧ M (ld h) = ld h ∧ l ≤ szM M c (ld h) := a1
  have P2 : ∀ h, h < p.2.1 → ld2 h < c ∧ M (ld2 h) = ld2 h ∧ l ≤ szM M c (ld2 h) := fun h hh => ⟨(v2 h hh).1, (v2 h hh).2.1, (v2 h hh).2.2.1⟩
  have C1 : ∀ k, (k < c ∧ M k = k ∧ l ≤ szM M c k) → ∃ h, h < n ∧ ld h = k := fun k q => a3 k q.1 q.2.1 q.2.2
  have C2 : ∀ k, (k < c ∧ M k = k ∧ l ≤ szM M c k) → ∃ h, h < p.2.1 ∧ ld2 h = k := fun k q => v4 k q.1 q.2.1 q.2.2
  have e1 := enum_one P1 a2 C1 P2 v3 C2
  have e2 := enum_one P2 v3 C2 P1 a2 C1
  have hn : p.2.1 = n := by
    by_cases q : n < p.2.1
    · have := (e2 (n + 1) n (by omega) q).1; omega
    · by_cases q2 : p.2.1 < n
      · have := (e1 (p.2.1 + 1) p.2.1 (by omega) q2).1; omega
      · omega
  refine ⟨hn, fun h x hh hx => ?_⟩
  rw [(v2 h (by omega)).2.2.2 x hx]
  refine decide_eq_decide.mpr ⟨fun q => ⟨q.1, ?_⟩, fun q => ⟨q.1, ?_⟩⟩
  · rw [a4 x h q.1]
    exact ⟨hh, by rw [q.2]; exact ((e1 (h + 1) h (by omega) hh).2).symm⟩
  · have := ((a4 x h q.1).mp q.2).2
    rw [this]
    exact (e1 (h + 1) h (by omega) hh).2
theorem RM_th (hσ : SOK σ) (hM : RM σ I J) : RM σ (thI I z) J := RM_fr (sok_P hσ) (sok_N hσ).2 hM ⟨fun a j ha => th_q ha, fun _ _ => rfl⟩
/-- what the model finds are these -/
theorem fhI_S (hσ : SOK σ) (hL : Lay g) (hM : RM σ I J) (hE : EnH (lkN σ) (sN σ) (sq σ 6) R n) : ∃ I2, hf_rn 183 0 [some (.ref 270), none, none, none] [] g I J = some (.inl none, g, I2, J) ∧ (∀ a j, ¬ quI a j → I2 a j = I a j) ∧ (∀ a, a < 273 ∨ 292 ≤ a → I2 a = I a) ∧ I2 276 12 = nI n ∧ ∀ j, j < sN σ → I2 275 (768 + j) = coM (R j) := by
  have hN := sok_N hσ
  obtain ⟨M, m, hr⟩ := m_findsHalos (J := J) (lay_md hL) (RM_c hM) hN.2 (hM.1 6 (by decide)) (sok_6 hσ).1 (sok_6 hσ).2
  have hlk : ∀ a b, a < sN σ → b < sN σ → LkM I a b = lkN σ a b := fun a b ha hb => by
    have h5 : I 270 5 = nI (sq σ 5) := hM.1 5 (by decide)
    have := LkM_z (R := nowR σ) (l := sq σ 5) (RM_rw hM) (now_ok hσ) (sok_5 hσ).2 h5 ha hb
    exact this
  have m2 : mkd (lkN σ) (sN σ) M := mkd_cong (L := LkM I) hlk m
  obtain ⟨R2, r1, r2, r3, r4⟩ := hz_En (F := nmM (sN σ) M (I 279)) (B := shM (sN σ) M (I 280) (sN σ)) (O := I 275) hN.2 m2 (fun a b _ _ => lk_sym) (sok_6 hσ).1 (fun j hj => nmM_lt hj) (fun x hx => shM_z (fun j hj => mkd_lt m2 hj) (sN σ) (Nat.le_refl _) x hx)
  obtain ⟨en, eR⟩ := EnH_one (fun a b _ _ => lk_sym) hE r1
  unfold fhI at hr
  generalize hzM (sN σ) (nmM (sN σ) M (I 279)) (shM (sN σ) M (I 280) (sN σ)) (nwR (I 275) (sN σ) (fun _ => -1)) (sN σ + 1 - sq σ 6) = p at hr r1 r2 r3 r4 en
  generalize nmM (sN σ) M (I 279) = F at hr
  generalize shM (sN σ) M (I 280) (sN σ) = B at hr
  refine ⟨_, hr, fun a j ha => ?_, fun a ha => ?_, ?_, fun j hj => ?_⟩
  · by_cases e : a = 276
    · subst e
      rw [ku_ix (by unfold quI at ha; omega), w3_n (by decide) (by decide) (by decide)]
    · rw [ku_ne e]
      by_cases e2 : a = 275
      · subst e2
        rw [w3_c]
        exact r3 j (by unfold quI at ha; omega)
      · rw [w3_n (by unfold quI at ha; omega) (by unfold quI at ha; omega) e2]
  · rw [ku_ne (by omega), w3_n (by omega) (by omega) (by omega)]
  · rw [ku_same, en]
  · rw [ku_ne (by decide), w3_c, r2 j hj, eR j hj]
/-- R names the n halos of a slot, by a length and a least number -/
def hOf (σ : Sg) (s : Nat) (R : Nat → Option Nat) (n l t : Nat) : Prop :=
  EnH (lkZ (sX σ s) (sY σ s) l) (sN σ) t R n ∧ 1 ≤ t ∧ t ≤ 64 ∧ l ≤ 2000 ∧ n ≤ 64 ∧ (s = 12 → l = sq σ 5 ∧ t = sq σ 6) ∧ (s < sP σ → R = sH σ s ∧ n = sC σ s ∧ l = sL σ s ∧ t = sT σ s)
theorem hOf_ex (hσ : SOK σ) (hs : sl σ s) : ∃ R n l t, hOf σ s R n l t := by
  have hP := sok_P hσ
  by_cases e : s = 12
  · obtain ⟨R, n, h1, h2⟩ := En_ex (L := lkZ (sX σ s) (sY σ s) (sq σ 5)) (l := sq σ 6) (sok_N hσ).2 (fun a b _ _ => lk_sym) (sok_6 hσ).1
    exact ⟨R, n, _, _, h1, (sok_6 hσ).1, (sok_6 hσ).2, (sok_5 hσ).2, h2, fun _ => ⟨rfl, rfl⟩, fun q => absurd q (by omega)⟩
  · have hp : s < sP σ := by unfold sl at hs; omega
    obtain ⟨h1, h2, h3, h4, h5, h6⟩ := hσ.2.2 s hp
    exact ⟨_, _, _, _, h1, h2, h3, h5, h6, fun q => absurd q e, fun _ => ⟨rfl, rfl, rfl, rfl⟩⟩
/-- a scene with its halos, on the class's side -/
def cSl (σ : Sg) (g : hf_G) (I : hf_I) (J : hf_J) (i : Int32) (s : Nat) (R : Nat → Option Nat) (n l t S : Nat) (I2 : hf_I) (J2 : hf_J) : Prop :=
  SW g I J i S I2 J2 ∧ Sc g S ∧ gA s = S + 1 ∧ (S = 1 ∨ 35 ≤ S ∧ S ≤ 222) ∧ RC σ I2 J2 ∧ kC I I2 J J2 ∧ I2 S 2 = nI n ∧ I2 S 4 = nI t ∧ J2 S 3 = lZ l ∧ ∀ h k, h < n → k < 64 → btL (J2 (S + 11) h) k = decide (k < sN σ ∧ R k = some h)
theorem cls_slot (hσ : SOK σ) (hL : Lay g) (hC : RC σ I J) (hn : slN i s) (hs : sl σ s) (hR : hOf σ s R n l t) : ∃ S I2 J2, cSl σ g I J i s R n l t S I2 J2 := by
  have hP := sok_P hσ
  have hN := sok_N hσ
  obtain ⟨hE, t1, t2, l2, n2, h12, hp⟩ := hR
  rcases hn with ⟨rfl, rfl⟩ | ⟨rfl, hs12⟩
  · obtain ⟨rfl, rfl⟩ := h12 rfl
    have e0 : J 0 7 = lZ (sq σ 5) := hC.1.2.2.2.2.2.1
    have e8 : I 0 8 = nI (sq σ 6) := hC.1.2.2.2.2.2.2.1
    have hw := c_swNow (J := J) (lay_hx hL) (RC_c hC) hN.2
    have hf := fh_En (X := J 4) (Y := J 6) (v := lZ (sq σ 5)) (H := J 12) hN.2 t2 (fun a b _ _ => lk_sym) (fun a b ha hb => nr_z (RC_rw hC) (now_ok hσ) l2 ha hb) hE
    refine ⟨1, _, _, hw, hx_sc1 (lay_hx hL), rfl, Or.inl rfl, ?_, ?_, ?_, ?_, ?_, ?_⟩
    · refine RC_fr hP hC ⟨fun a j ha => ?_, fun a ha => ?_⟩
      · unfold fnI
        rw [ku_ne (by unfold scI at ha; omega), ku_ne (by unfold scI at ha; omega)]
      · unfold fnJ
        rw [kw_ne (by unfold scJ at ha; omega), ku_ne (by unfold scJ at ha; omega)]
    · intro a ha
      unfold fnI fnJ
      rw [ku_ne (by omega), ku_ne (by omega), kw_ne (by omega), ku_ne (by omega)]
      exact ⟨rfl, rfl⟩
    · unfold fnI
      rw [ku_same, e0, e8, hf.1]
    · unfold fnI
      rw [ku_ix (by decide), ku_same, e8]
    · unfold fnJ
      rw [kw_ne (by decide), ku_same, e0]
    · intro h k hh hk
      unfold fnJ
      rw [kw_row, e0, e8]
      exact hf.2 h k hh hk
  · have hp2 : s < sP σ := by unfold sl at hs; omega
    obtain ⟨rfl, rfl, rfl, rfl⟩ := hp hp2
    obtain ⟨r1, r2, r3, r4, -, -⟩ := hC.2.2 s hp2
    exact ⟨34 + 17 * s + 1, I, J, c_swAt (lay_hx hL) (lay_al hL) (RC_P hC) hP hp2, pc_sc1 (al_pc (lay_al hL) s hs12), gA_p hs12, Or.inr (by omega), hC, kC.r, r1, r2, r3, r4⟩
theorem cls_no (hσ : SOK σ) (hL : Lay g) (hC : RC σ I J) (h : slB (sP σ) i = false) : SX g I J i := c_swX (lay_hx hL) (lay_al hL) (slB_n h hC).1 (slB_n h hC).2
/-- a slot with its halos, on the model's side -/
def mSl (σ : Sg) (g : hf_G) (I : hf_I) (J : hf_J) (i : Int32) (s : Nat) (R : Nat → Option Nat) (n : Nat) (I2 : hf_I) : Prop :=
  MS g I J i s I2 ∧ RM σ I2 J ∧ kM I I2 J J ∧ I2 270 = I 270 ∧ I2 276 s = nI n ∧ ∀ k, k < sN σ → I2 275 (64 * s + k) = coM (R k)
theorem mdl_slot (hσ : SOK σ) (hL : Lay g) (hM : RM σ I J) (hn : slN i s) (hs : sl σ s) (hR : hOf σ s R n l t) : ∃ I2, mSl σ g I J i s R n I2 := by
  have hP := sok_P hσ
  have hN := sok_N hσ
  obtain ⟨hE, t1, t2, l2, n2, h12, hp⟩ := hR
  rcases hn with ⟨rfl, rfl⟩ | ⟨rfl, hs12⟩
  · obtain ⟨rfl, rfl⟩ := h12 rfl
    obtain ⟨I2, f1, f2, f3, f4, f5⟩ := fhI_S hσ hL hM hE
    exact ⟨I2, m_slotNow (lay_md hL) f1, RM_fr hP hN.2 hM ⟨f2, fun _ _ => rfl⟩, fun a ha => ⟨f3 a (by omega), rfl⟩, f3 270 (by omega), f4, f5⟩
  · have hp2 : s < sP σ := by unfold sl at hs; omega
    obtain ⟨rfl, rfl, rfl, rfl⟩ := hp hp2
    obtain ⟨r1, r2⟩ := hM.2.2 s hp2
    exact ⟨I, m_slotAt (lay_md hL) hs12, hM, kM.r, rfl, r1, r2⟩
theorem slN_12 (h : slN i s) : s ≤ 12 := by rcases h with ⟨-, h⟩ | ⟨-, h⟩ <;> omega
theorem mdl_isHalo (hσ : SOK σ) (hL : Lay g) (hM : RM σ I J) (hs0 : slB (sP σ) i = true) (hn : slN i s) (hm : mSl σ g I J i s R n I2) (n2 : n ≤ 64) : MH g I J i j (decide (0 ≤ j ∧ j < nI n)) I2 := m_isHalo (lay_md hL) (RM_P hM) (sok_P hσ) hs0 (slN_12 hn) hm.1 hm.2.2.2.2.1 n2
theorem mdl_no (hσ : SOK σ) (hL : Lay g) (hM : RM σ I J) (hs0 : slB (sP σ) i = false) : MH g I J i j false I := m_isHaloX (lay_md hL) (RM_P hM) (sok_P hσ) hs0
/-- the model's answer after a slot was looked at -/
theorem mOK_sl {r : Option hf_R} {w : Option Value} (hσ : SOK σ) (h1 : RM σ I2 J) (h2 : kM I I2 J J) (hr : r = some (.inl w, g, thI I2 z, J)) : mOK σ g I J z w r :=
  ⟨_, _, hr, RM_th hσ h1, th_38, fun a ha => ⟨(th_r (by omega)).trans (h2 a ha).1, rfl⟩⟩
theorem cEX_1 {r : Option hf_R} {e : Nat} (h1 : RC σ I2 J2) (h2 : kC I I2 J J2) (hr : r = some (.inr e, hf_th g, I2, J2)) : cEX σ g I J e r := ⟨_, _, hr, h1, h2⟩
theorem cOK_1 {r : Option hf_R} {w : Option Value} (h1 : RC σ I2 J2) (h2 : kC I I2 J J2) (hr : r = some (.inl w, g, I2, J2)) : cOK σ g I J w r := ⟨_, _, hr, h1, h2⟩
theorem agr_halos (hσ : SOK σ) : agr 1 cdI3 σ (fun g I J => hf_rn 119 0 [some (.ref 0), some (.int i)] [] g I J) (fun g I J => hf_rn 185 0 [some (.ref 270), some (.int i)] [] g I J) := by
  have hP := sok_P hσ
  cases hs : slB (sP σ) i
  · exact Or.inr ⟨3, some (.int 0), Or.inr (Or.inr rfl), (by decide : ¬ cdI3 3 = 0), ⟨_, rfl⟩, fun g I J hL hW hC => cEX_0 hC (c_halosX (lay_hx hL) (lay_jo hL) (cls_no hσ hL hC hs)), fun g I J hL hM => mOK_th hσ hM (m_halosX (lay_md hL) (RM_P hM) hP hs)⟩
  · obtain ⟨s, hn, hs2⟩ := sl_ex hσ hs
    obtain ⟨R, n, l, t, hR⟩ := hOf_ex hσ hs2
    refine Or.inl ⟨σ, some (.int (nI n)), hσ, ⟨_, rfl⟩, fun g I J hL hW hC => ?_, fun g I J hL hM => ?_⟩
    · obtain ⟨S, I2, J2, c1, c2, c3, c4, c5, c6, c7, -⟩ := cls_slot hσ hL hC hn hs2 hR
      have hr := c_halosF (lay_hx hL) c1 c2
      rw [c7] at hr
      exact cOK_1 c5 c6 hr
    · obtain ⟨I2, m1, m2, m3, m4, m5, m6⟩ := mdl_slot hσ hL (RM_th (z := 0) hσ hM) hn hs2 hR
      have hr := m_halosF (I := I) (lay_md hL) (RM_P hM) hP hs (slN_12 hn) m1
      rw [m5] at hr
      exact ⟨_, _, hr, m2, by rw [m4, th_38], fun a ha => ⟨((m3 a ha).1).trans (th_r (by omega)), rfl⟩⟩
/-- grains as bits -/
def gbS (R : Nat → Option Nat) (c h : Nat) : Int64 := orL c fun k => decide (R k = some h)
theorem gbS_bt (hc2 : c ≤ 64) (hk : k < 64) : btL (gbS R c h) k = decide (k < c ∧ R k = some h) := by
  unfold gbS
  rw [bt_orL hc2 hk, Bool.decide_and]
theorem En_lt (hE : EnH L c l R n) (hk : k < c) (hr : R k = some x) : x < n := by
  obtain ⟨M, ld, -, -, -, -, a4⟩ := hE
  exact ((a4 k x hk).mp hr).1
theorem gbM_S {Q : Nat → Int32} (hQ : ∀ k, k < c → Q (64 * s + k) = coM (R k)) (hE : EnH L c l R n) (n2 : n ≤ 64) (hh : h < n) : gbM Q s (nI h) c = gbS R c h := by
  unfold gbM gbS orL
  refine it_cong fun k z hk => ?_
  have e : (Q (64 * s + k) = nI h) = (R k = some h) := by
    rw [hQ k hk]
    exact coM_eq (fun x hx => by have := En_lt hE hk hx; omega) (by omega)
  by_cases q : R k = some h
  · rw [if_pos (e.mpr q), if_pos (decide_eq_true q)]
  · rw [if_neg (fun u => q (e.mp u)), if_neg (fun u => q (of_decide_eq_true u)), Int64.or_zero]
theorem cSl_b (h1 : cSl σ g I J i s R n l t S I2 J2) (hσ : SOK σ) (hh : h < n) : J2 (S + 11) h = gbS R (sN σ) h := by
  obtain ⟨-, -, -, -, -, -, -, -, -, h9⟩ := h1
  exact bt_ext fun k hk => by rw [h9 h k hh hk, gbS_bt (sok_N hσ).2 hk]
theorem agr_grains (hσ : SOK σ) : agr 2 cdI3 σ (fun g I J => hf_rn 121 0 [some (.ref 0), some (.int i), some (.int j), none] [] g I J) (fun g I J => hf_rn 189 0 [some (.ref 270), some (.int i), some (.int j), none, none, none, none] [] g I J) := by
  have hP := sok_P hσ
  have hN := sok_N hσ
  cases hs : slB (sP σ) i
  · exact Or.inr ⟨3, some (.long 0), Or.inr (Or.inr rfl), (by decide : ¬ cdI3 3 = 0), ⟨_, rfl⟩, fun g I J hL hW hC => cEX_0 hC (c_grainsX2 (lay_hx hL) (cls_no hσ hL hC hs)), fun g I J hL hM => mOK_th hσ hM (m_grainsX (lay_md hL) (mdl_no hσ hL hM hs))⟩
  · obtain ⟨s, hn, hs2⟩ := sl_ex hσ hs
    obtain ⟨R, n, l, t, hR⟩ := hOf_ex hσ hs2
    have n2 : n ≤ 64 := hR.2.2.2.2.1
    rcases i_lt n (by omega) j with ⟨k, hk, rfl⟩ | hj
    · refine Or.inl ⟨σ, some (.long (gbS R (sN σ) k)), hσ, ⟨_, rfl⟩, fun g I J hL hW hC => ?_, fun g I J hL hM => ?_⟩
      · obtain ⟨S, I2, J2, hc⟩ := cls_slot hσ hL hC hn hs2 hR
        have hb := cSl_b hc hσ hk
        obtain ⟨c1, c2, c3, c4, c5, c6, c7, -⟩ := hc
        have hr := c_grainsF (lay_hx hL) c1 c2 c7 n2 hk
        rw [hb] at hr
        exact cOK_1 c5 c6 hr
      · obtain ⟨I2, hm⟩ := mdl_slot hσ hL hM hn hs2 hR
        have hh := mdl_isHalo (j := nI k) hσ hL hM hs hn hm n2
        rw [decide_eq_true (i_in (by omega) hk)] at hh
        have hr := m_grainsF (lay_md hL) hh hn (RM_c hm.2.1) hN.2
        rw [gbM_S hm.2.2.2.2.2 hR.1 n2 hk] at hr
        exact mOK_sl hσ hm.2.1 hm.2.2.1 hr
    · refine Or.inr ⟨3, some (.long 0), Or.inr (Or.inr rfl), (by decide : ¬ cdI3 3 = 0), ⟨_, rfl⟩, fun g I J hL hW hC => ?_, fun g I J hL hM => ?_⟩
      · obtain ⟨S, I2, J2, c1, c2, c3, c4, c5, c6, c7, -⟩ := cls_slot hσ hL hC hn hs2 hR
        exact cEX_1 c5 c6 (c_grainsX (lay_hx hL) c1 c2 (by rw [c7]; exact hj))
      · obtain ⟨I2, hm⟩ := mdl_slot hσ hL hM hn hs2 hR
        have hh := mdl_isHalo (j := j) hσ hL hM hs hn hm n2
        rw [decide_eq_false hj] at hh
        exact mOK_sl hσ hm.2.1 hm.2.2.1 (m_grainsX (lay_md hL) hh)
end
