/-! WHAT IS TOLD OF A HALO -/
section
variable {σ : Sg} {c l n a b s h x k t S p q m : Nat} {L : Nat → Nat → Bool} {I I2 : hf_I} {J J2 : hf_J} {g : hf_G} {R : Nat → Option Nat} {X Y X2 Y2 U W U2 W2 : Nat → Int64} {P Q : Nat → Nat} {u v : Int64} {i j y z : Int32}
theorem smP_cong {f f2 : Nat → Int64} {p p2 : Nat → Bool} (h : ∀ k, k < c → p k = p2 k ∧ (p k = true → f k = f2 k)) : smP c p f = smP c p2 f2 := by
  refine it_cong fun k z hk => ?_
  obtain ⟨h1, h2⟩ := h k hk
  rw [← h1]
  by_cases e : p k = true
  · rw [if_pos e, if_pos e, h2 e]
  · rw [if_neg e, if_neg e]
/-- the lowest grain of a halo -/
def hLow (R : Nat → Option Nat) (c h q : Nat) : Prop := q < c ∧ R q = some h ∧ ∀ j, j < q → ¬ R j = some h
theorem hLow_ex (hE : EnH L c l R n) (hh : h < n) : ∃ q, hLow R c h q := by
  obtain ⟨M, ld, -, a1, a2, a3, a4⟩ := hE
  obtain ⟨b1, b2, -⟩ := a1 h hh
  obtain ⟨q, ⟨q1, q2⟩, q3⟩ := lst (P := fun x => x < c ∧ R x = some h) (ld h) ⟨b1, (a4 (ld h) h b1).mpr ⟨hh, b2⟩⟩
  exact ⟨q, q1, q2, fun j hj e => by have := q3 j ⟨by omega, e⟩; omega⟩
theorem low_is {b : Int64} (hq : q < 64) (h1 : btL b q = true) (h2 : ∀ j, j < q → btL b j = false) : lowI (btL b) = nI q := by
  unfold lowI
  cases e : low (btL b) 64 0 with
  | none =>
    have := low_none e q (by omega) (by omega)
    rw [h1] at this
    cases this
  | some m =>
    obtain ⟨a1, -, a3, a4⟩ := low_some e
    have : m = q := by
      by_cases c1 : m < q
      · rw [h2 m c1] at a1; cases a1
      · by_cases c2 : q < m
        · rw [a4 q (by omega) c2] at h1; cases h1
        · omega
    subst this
    rfl
theorem low_S (hc2 : c ≤ 64) (hq : hLow R c h q) : lowI (btL (gbS R c h)) = nI q := by
  obtain ⟨q1, q2, q3⟩ := hq
  refine low_is (by omega) ?_ fun j hj => ?_
  · rw [gbS_bt hc2 (by omega)]
    exact decide_eq_true ⟨q1, q2⟩
  · rw [gbS_bt hc2 (by omega)]
    exact decide_eq_false fun u => q3 j hj u.2
/-- the model's names as the state's -/
def nmO (I : hf_I) (s c : Nat) (R : Nat → Option Nat) : Prop := ∀ k, k < c → I 275 (64 * s + k) = coM (R k) ∧ ∀ x, R k = some x → x < 64
theorem nmO_eq (hQ : nmO I s c R) (hk : k < c) (hh : h < 64) : (I 275 (64 * s + k) = nI h) = (R k = some h) := by
  rw [(hQ k hk).1]
  exact coM_eq (hQ k hk).2 hh
theorem lwM_S (hQ : nmO I s c R) (hh : h < 64) (hq : hLow R c h q) : lwM I s (nI h) c = nI q := by
  obtain ⟨q1, q2, q3⟩ := hq
  have key : ∀ t, t ≤ c → c - t ≤ q → (it t (-1 : Int32) fun t f => if I 275 (64 * s + (c - 1 - t)) = nI h then nI (c - 1 - t) else f) = nI q := by
    intro t
    induction t with
    | zero => intro _ h; omega
    | succ t ih =>
      intro ht hq
      rw [it_s]
      have e := nmO_eq hQ (show c - 1 - t < c by omega) hh
      by_cases c1 : c - 1 - t = q
      · rw [if_pos (e.mpr (by rw [c1]; exact q2)), c1]
      · rw [if_neg (fun u => q3 _ (by omega) (e.mp u))]
        exact ih (by omega) (by omega)
  exact key c (Nat.le_refl _) (by omega)
def szR (R : Nat → Option Nat) (c h : Nat) : Nat := ctB (fun k => decide (R k = some h)) c
theorem pop_S (hc2 : c ≤ 64) : popI (gbS R c h) = nI (szR R c h) := by
  rw [popI_n]
  congr 1
  have := ctB_cut (n := c) (p := btL (gbS R c h)) (q := fun j => decide (R j = some h)) (fun j hj => by rw [gbS_bt hc2 (by omega)]; exact decide_eq_decide.mpr ⟨fun q => q.2, fun q => ⟨hj, q⟩⟩) (64 - c) (fun j a b => by rw [gbS_bt hc2 (by omega)]; exact decide_eq_false (fun q => by omega))
  rw [show c + (64 - c) = 64 by omega] at this
  exact this
theorem szR_pos (hq : hLow R c h q) : 0 < szR R c h := ctB_pos (p := fun k => decide (R k = some h)) (k := q) (decide_eq_true hq.2.1) c hq.1
theorem szR_le : szR R c h ≤ c := ctB_le c
theorem tsM_S (hc2 : c ≤ 64) (hQ : nmO I s c R) (hh : h < 64) : tsM I J s q y (nI h) c = (smP c (btL (gbS R c h)) (tvM I J s q y), nI (szR R c h)) := by
  have key : ∀ t, t ≤ c → (it t ((0 : Int64), (0 : Int32)) fun k p => if I 275 (64 * s + k) = nI h then (p.1 + tvM I J s q y k, p.2 + 1) else p) = (smP t (fun k => decide (R k = some h)) (tvM I J s q y), nI (ctB (fun k => decide (R k = some h)) t)) := by
    intro t
    induction t with
    | zero => intro _; rfl
    | succ t ih =>
      intro ht
      have e := nmO_eq hQ (show t < c by omega) hh
      have e2 : smP (t + 1) (fun k => decide (R k = some h)) (tvM I J s q y) = if decide (R t = some h) = true then smP t (fun k => decide (R k = some h)) (tvM I J s q y) + tvM I J s q y t else smP t (fun k => decide (R k = some h)) (tvM I J s q y) := rfl
      rw [it_s, ih (by omega), e2, ctB_s]
      by_cases c1 : R t = some h
      · rw [if_pos (e.mpr c1), if_pos (decide_eq_true c1), if_pos (decide_eq_true c1)]
        dsimp only
        rw [z_1]
      · rw [if_neg (fun u => c1 (e.mp u)), if_neg (fun u => c1 (of_decide_eq_true u)), if_neg (fun u => c1 (of_decide_eq_true u))]
  have h1 := key c (Nat.le_refl _)
  have h2 : smP c (fun k => decide (R k = some h)) (tvM I J s q y) = smP c (btL (gbS R c h)) (tvM I J s q y) := smP_cong fun k hk => ⟨by rw [gbS_bt hc2 (by omega)]; exact decide_eq_decide.mpr ⟨fun u => ⟨hk, u⟩, fun u => u.2⟩, fun _ => rfl⟩
  rw [← h2]
  exact h1
/-- a slot's rows, on the model's side -/
def RWs (I : hf_I) (J : hf_J) (s c : Nat) (P Q : Nat → Nat) (U W : Nat → Int64) : Prop := ∀ k, k < c → I 271 (64 * s + k) = nI (P k) ∧ I 272 (64 * s + k) = nI (Q k) ∧ J 273 (64 * s + k) = U k ∧ J 274 (64 * s + k) = W k ∧ P k < 4096 ∧ Q k < 4096
theorem wa_S (h : RWs I J s c P Q U W) (ha : a < c) (hb : b < c) : (waX I s a b).toInt64 = wayL (lZ (P a)) (lZ (P b)) ∧ (waY I s a b).toInt64 = wayL (lZ (Q a)) (lZ (Q b)) := by
  obtain ⟨h1, h2, -, -, h3, h4⟩ := h a ha
  obtain ⟨g1, g2, -, -, g3, g4⟩ := h b hb
  have r1 := wyZ_rng (a := (P a : Int)) (b := (P b : Int))
  have r2 := wyZ_rng (a := (Q a : Int)) (b := (Q b : Int))
  unfold waX waY
  rw [h1, h2, g1, g2, nI_iZ, nI_iZ, nI_iZ, nI_iZ, wyI_z ⟨by omega, by omega⟩ ⟨by omega, by omega⟩, wyI_z ⟨by omega, by omega⟩ ⟨by omega, by omega⟩, wayL_z ⟨by omega, by omega⟩ ⟨by omega, by omega⟩, wayL_z ⟨by omega, by omega⟩ ⟨by omega, by omega⟩]
  exact ⟨iZ_l ⟨by omega, by omega⟩, iZ_l ⟨by omega, by omega⟩⟩
theorem wi_plc : (wiI v).toInt64 = plc v := by
  rw [wiI_z, plc_z]
  exact iZ_l ⟨by omega, by omega⟩
theorem by1_dw (h1 : 0 < n) (h2 : n ≤ 64) : by1 v (nI n).toInt64 = dwL v (nI n).toInt64 := by
  unfold by1
  rw [nI_ll (by omega), if_neg (by rw [show (0 : Int64) = lZ 0 from rfl, lZ_eq (lRs (by omega) (by omega)) (lRs (by omega) (by omega))]; omega)]
  exact fdv_dwL (by omega) (lRs (by omega) (by omega))
/-- what a state tells of a halo -/
def tlS (σ : Sg) (s : Nat) (R : Nat → Option Nat) (h q m : Nat) : Int64 := valH (sN σ) (fun k => lZ (sX σ s k)) (fun k => lZ (sY σ s k)) (sU σ s) (sW σ s) (gbS R (sN σ) h) q m
theorem RM_rws (hσ : SOK σ) (hM : RM σ I J) (hs : sl σ s) : RWs I J s (sN σ) (sX σ s) (sY σ s) (sU σ s) (sW σ s) := fun k hk => by
  obtain ⟨h1, h2, h3, h4⟩ := hM.2.1 s k hs hk
  obtain ⟨h5, h6⟩ := hσ.2.1 s k hs hk
  exact ⟨h1, h2, h3, h4, h5, h6⟩
theorem te_S (hc2 : c ≤ 64) (h : RWs I J s c P Q U W) (hQ : nmO I s c R) (hh : k < 64) (hq : hLow R c k q) (hm : m < 6) : teM I s q (nI m) (tsM I J s q (nI m) (nI k) c) = valH c (fun k => lZ (P k)) (fun k => lZ (Q k)) U W (gbS R c k) q m := by
  have hp := szR_pos hq
  have hl := szR_le (R := R) (c := c) (h := k)
  have hlt := hq.1
  obtain ⟨a1, a2, -, -, a3, a4⟩ := h q hlt
  have bt : ∀ x, x < c → btL (gbS R c k) x = true → True := fun _ _ _ => trivial
  rw [tsM_S hc2 hQ hh]
  unfold teM valH
  dsimp only
  rw [pop_S hc2]
  match m, hm with
  | 0, _ => rfl
  | 1, _ =>
    have e : smP c (btL (gbS R c k)) (tvM I J s q (nI 1)) = smP c (btL (gbS R c k)) (fun m => wayL (lZ (P q)) (lZ (P m))) := smP_cong fun x hx => ⟨rfl, fun _ => (wa_S h hlt hx).1⟩
    rw [if_neg (by decide), if_neg (by decide), if_pos (by decide), if_pos (by decide), if_neg (by decide), if_pos rfl, wi_plc, e, by1_dw hp (by omega), a1, nI_ll (by omega)]
  | 2, _ =>
    have e : smP c (btL (gbS R c k)) (tvM I J s q (nI 2)) = smP c (btL (gbS R c k)) (fun m => wayL (lZ (Q q)) (lZ (Q m))) := smP_cong fun x hx => ⟨rfl, fun _ => (wa_S h hlt hx).2⟩
    rw [if_neg (by decide), if_neg (by decide), if_pos (by decide), if_neg (by decide), if_neg (by decide), if_neg (by decide), if_pos rfl, wi_plc, e, by1_dw hp (by omega), a2, nI_ll (by omega)]
  | 3, _ =>
    have e : smP c (btL (gbS R c k)) (tvM I J s q (nI 3)) = smP c (btL (gbS R c k)) U := smP_cong fun x hx => ⟨rfl, fun _ => (h x hx).2.2.1⟩
    rw [if_neg (by decide), if_neg (by decide), if_neg (by decide), if_neg (by decide), if_neg (by decide), if_neg (by decide), if_pos rfl, e, by1_dw hp (by omega)]
  | 4, _ =>
    have e : smP c (btL (gbS R c k)) (tvM I J s q (nI 4)) = smP c (btL (gbS R c k)) W := smP_cong fun x hx => ⟨rfl, fun _ => (h x hx).2.2.2.1⟩
    rw [if_neg (by decide), if_neg (by decide), if_neg (by decide), if_neg (by decide), if_neg (by decide), if_neg (by decide), if_neg (by decide), if_pos rfl, e, by1_dw hp (by omega)]
  | 5, _ =>
    have e : smP c (btL (gbS R c k)) (tvM I J s q (nI 5)) = smP c (btL (gbS R c k)) (fun m => wayL (lZ (P q)) (lZ (P m)) * W m - wayL (lZ (Q q)) (lZ (Q m)) * U m) := smP_cong fun x hx => ⟨rfl, fun _ => by
      show (waX I s q x).toInt64 * J 274 (64 * s + x) - (waY I s q x).toInt64 * J 273 (64 * s + x) = _
      rw [(wa_S h hlt hx).1, (wa_S h hlt hx).2, (h x hx).2.2.1, (h x hx).2.2.2.1]⟩
    rw [if_neg (by decide), if_pos (by decide), if_neg (by decide), if_neg (by decide), if_neg (by decide), if_neg (by decide), if_neg (by decide), e]
theorem told_S (hσ : SOK σ) (hL : Lay g) (hM : RM σ I J) (hs : sl σ s) (hQ : nmO I s (sN σ) R) (hh : k < 64) (hq : hLow R (sN σ) k q) (hm : m < 6) : hf_rn 191 0 [some (.ref 270), some (.int (nI s)), some (.int (nI k)), some (.int (nI m)), none, none, none, none, none, none, none, none] [] g I J = some (.inl (some (.long (tlS σ s R k q m))), g, I, J) := by
  have hN := sok_N hσ
  have hP := sok_P hσ
  have hlt := hq.1
  have hp := szR_pos hq
  have hl := szR_le (R := R) (c := sN σ) (h := k)
  have hr := m_told (y := nI m) (J := J) (i := nI k) (lay_md hL) (RM_c hM) hN.2 (show s < 13 by unfold sl at hs; omega) (lwM_S hQ hh hq) (by omega) (by
    rw [tsM_S hN.2 hQ hh]
    dsimp only
    rw [nI_ll (by omega), show (0 : Int64) = lZ 0 from rfl, lZ_eq (lRs (by omega) (by omega)) (lRs (by omega) (by omega))]
    omega)
  rw [te_S hN.2 (RM_rws hσ hM hs) hQ hh hq hm] at hr
  exact hr
theorem valH_cong {b : Int64} (h : ∀ k, k < c → X k = X2 k ∧ Y k = Y2 k ∧ U k = U2 k ∧ W k = W2 k) (hq : q < c) : valH c X Y U W b q m = valH c X2 Y2 U2 W2 b q m := by
  obtain ⟨q1, q2, -, -⟩ := h q hq
  have e1 : smP c (btL b) (fun m => wayL (X q) (X m)) = smP c (btL b) (fun m => wayL (X2 q) (X2 m)) := smP_cong fun k hk => ⟨rfl, fun _ => by rw [q1, (h k hk).1]⟩
  have e2 : smP c (btL b) (fun m => wayL (Y q) (Y m)) = smP c (btL b) (fun m => wayL (Y2 q) (Y2 m)) := smP_cong fun k hk => ⟨rfl, fun _ => by rw [q2, (h k hk).2.1]⟩
  have e3 : smP c (btL b) U = smP c (btL b) U2 := smP_cong fun k hk => ⟨rfl, fun _ => (h k hk).2.2.1⟩
  have e4 : smP c (btL b) W = smP c (btL b) W2 := smP_cong fun k hk => ⟨rfl, fun _ => (h k hk).2.2.2⟩
  have e5 : smP c (btL b) (fun m => wayL (X q) (X m) * W m - wayL (Y q) (Y m) * U m) = smP c (btL b) (fun m => wayL (X2 q) (X2 m) * W2 m - wayL (Y2 q) (Y2 m) * U2 m) := smP_cong fun k hk => ⟨rfl, fun _ => by rw [q1, q2, (h k hk).1, (h k hk).2.1, (h k hk).2.2.1, (h k hk).2.2.2]⟩
  unfold valH
  rw [e1, e2, e3, e4, e5, q1, q2]
theorem mSl_nm (hσ : SOK σ) (hR : hOf σ s R n l t) (hm : mSl σ g I J i s R n I2) : nmO I2 s (sN σ) R := fun k hk => ⟨hm.2.2.2.2.2 k hk, fun x hx => by have := En_lt hR.1 hk hx; have := hR.2.2.2.2.1; omega⟩
theorem cSl_v (hσ : SOK σ) (hR : hOf σ s R n l t) (hs : sl σ s) (hc : cSl σ g I J i s R n l t S I2 J2) (hk : k < n) (hq : hLow R (sN σ) k q) : valH (sN σ) (J2 (S + 3)) (J2 (S + 5)) (J2 (S + 7)) (J2 (S + 9)) (J2 (S + 11) k) q m = tlS σ s R k q m := by
  rw [cSl_b hc hσ hk]
  obtain ⟨-, -, c3, -, c5, -⟩ := hc
  obtain ⟨g1, g2⟩ := c5.2.1 s hs
  rw [c3] at g2
  exact valH_cong (fun x hx => g2 x hx) hq.1
theorem agr_ofHalo (hσ : SOK σ) : agr 2 cdIA σ (fun g I J => hf_rn 122 0 [some (.ref 0), some (.int i), some (.int j), some (.int y), none] [] g I J) (fun g I J => hf_rn 192 0 [some (.ref 270), some (.int i), some (.int j), some (.int y), none] [] g I J) := by
  have hP := sok_P hσ
  have hN := sok_N hσ
  have hb : inI y.toInt64 0 5 = rgB 0 5 y := rgB_in (by decide) (by decide)
  cases hs : slB (sP σ) i
  · exact Or.inr ⟨3, some (.long 0), Or.inr (Or.inr rfl), (by decide : ¬ cdIA 3 = 0), ⟨_, rfl⟩, fun g I J hL hW hC => cEX_0 hC (c_ofHaloX2 (lay_hx hL) (cls_no hσ hL hC hs)), fun g I J hL hM => mOK_th hσ hM (m_ofHaloX (lay_md hL) false (mdl_no hσ hL hM hs) rfl)⟩
  · obtain ⟨s, hn, hs2⟩ := sl_ex hσ hs
    obtain ⟨R, n, l, t, hR⟩ := hOf_ex hσ hs2
    have n2 : n ≤ 64 := hR.2.2.2.2.1
    rcases i_lt n (by omega) j with ⟨k, hk, rfl⟩ | hj
    · by_cases hx : rgB 0 5 y = true
      · have hi := hb.trans hx
        obtain ⟨m, -, m2, rfl⟩ := rgB_t (by decide) (by decide) hx
        obtain ⟨q, hq⟩ := hLow_ex hR.1 hk
        refine Or.inl ⟨σ, some (.long (tlS σ s R k q m)), hσ, ⟨_, rfl⟩, fun g I J hL hW hC => ?_, fun g I J hL hM => ?_⟩
        · obtain ⟨S, I2, J2, hc⟩ := cls_slot hσ hL hC hn hs2 hR
          have hv := cSl_v (m := m) hσ hR hs2 hc hk hq
          have hbq := cSl_b hc hσ hk
          obtain ⟨c1, c2, c3, c4, c5, c6, c7, -⟩ := hc
          have hlo := low_S hN.2 hq
          rw [← hbq] at hlo
          have hr := c_ofHaloF (m := m) (lay_hx hL) (lay_n hL) c1 c2 c7 n2 hk (by have := (c5.2.1 s hs2).1; rw [c3] at this; exact this) hN.2 hlo (by have := hq.1; omega) (by omega)
          rw [hv] at hr
          exact cOK_1 c5 c6 hr
        · obtain ⟨I2, hm⟩ := mdl_slot hσ hL hM hn hs2 hR
          have hh := mdl_isHalo (j := nI k) hσ hL hM hs hn hm n2
          rw [decide_eq_true (i_in (by omega) hk)] at hh
          have hQ : nmO (thI I2 0) s (sN σ) R := fun k hk => by
            rw [th_r (by decide)]
            exact mSl_nm hσ hR hm k hk
          have hr := m_ofHaloF (lay_md hL) hh hn hi (told_S hσ hL (RM_th hσ hm.2.1) hs2 hQ (by omega) hq (show m < 6 by omega))
          exact mOK_sl hσ hm.2.1 hm.2.2.1 hr
      · refine Or.inr ⟨1, some (.long 0), Or.inl rfl, (by decide : ¬ cdIA 1 = 0), ⟨_, rfl⟩, fun g I J hL hW hC => ?_, fun g I J hL hM => ?_⟩
        · obtain ⟨S, I2, J2, c1, c2, c3, c4, c5, c6, c7, -⟩ := cls_slot hσ hL hC hn hs2 hR
          exact cEX_1 c5 c6 (c_ofHaloX3 (lay_hx hL) (lay_n hL) c1 c2 (by rw [c7]; exact i_in (by omega) hk) (rgB_f hx))
        · obtain ⟨I2, hm⟩ := mdl_slot hσ hL hM hn hs2 hR
          have hh := mdl_isHalo (j := nI k) hσ hL hM hs hn hm n2
          rw [decide_eq_true (i_in (by omega) hk)] at hh
          exact mOK_sl hσ hm.2.1 hm.2.2.1 (m_ofHaloX (lay_md hL) true hh (by rw [hb, Bool.eq_false_iff.mpr hx]; rfl))
    · refine Or.inr ⟨3, some (.long 0), Or.inr (Or.inr rfl), (by decide : ¬ cdIA 3 = 0), ⟨_, rfl⟩, fun g I J hL hW hC => ?_, fun g I J hL hM => ?_⟩
      · obtain ⟨S, I2, J2, c1, c2, c3, c4, c5, c6, c7, -⟩ := cls_slot hσ hL hC hn hs2 hR
        exact cEX_1 c5 c6 (c_ofHaloX (lay_hx hL) c1 c2 (by rw [c7]; exact hj))
      · obtain ⟨I2, hm⟩ := mdl_slot hσ hL hM hn hs2 hR
        have hh := mdl_isHalo (j := j) hσ hL hM hs hn hm n2
        rw [decide_eq_false hj] at hh
        exact mOK_sl hσ hm.2.1 hm.2.2.1 (m_ofHaloX (lay_md hL) false hh rfl)
end
