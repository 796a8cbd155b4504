theorem lst {P : Nat → Prop} (n : Nat) : P n → ∃ m, P m ∧ ∀ y, P y → m ≤ y := by
  induction n using Nat.strongRecOn with
  | ind n ih =>
    intro h
    by_cases q : ∃ y, y < n ∧ P y
    · obtain ⟨y, y1, y2⟩ := q
      exact ih y y1 y2
    · exact ⟨n, h, fun y hy => Nat.le_of_not_lt fun c => q ⟨y, c, hy⟩⟩
section
variable {σ : Sg} {c l n n2 a b s h x k t S p : Nat} {M ld ld2 : Nat → Nat} {L : Nat → Nat → Bool} {I I2 : hf_I} {J J2 : hf_J} {g : hf_G} {R R2 : Nat → Option Nat} {X Y H : Nat → Int64} {v : Int64} {i j z : Int32}
theorem mkd_ex (L : Nat → Nat → Bool) (c : Nat) : ∃ M, mkd L c M := by
  have key : ∀ k, ∃ m, cnx L c k m ∧ ∀ y, cnx L c k y → m ≤ y := fun k => lst k cnx_r
  refine ⟨fun k => Classical.choose (key k), fun k _ => ⟨(Classical.choose_spec (key k)).2 k cnx_r, (Classical.choose_spec (key k)).1⟩, fun a b ha hb hab => ?_⟩
  cases hl : L a b
  · rfl
  · have h1 := (Classical.choose_spec (key b)).1
    have h2 := (Classical.choose_spec (key a)).2 (Classical.choose (key b)) (fun S hS hc => h1 S (hc a b ha hb hS hl) hc)
    have h3 : Classical.choose (key b) < Classical.choose (key a) := hab
    omega
theorem En_ex (hc2 : c ≤ 64) (hs : ∀ a b, a < c → b < c → L a b = L b a) (hl1 : 1 ≤ l) : ∃ R n, EnH L c l R n ∧ n ≤ 64 := by
  obtain ⟨M, h⟩ := mkd_ex L c
  obtain ⟨R, r1, -, -, r4⟩ := hz_En (F := fun j => nI (M j)) (B := fun x => nI (szM M c x)) (O := fun _ => 0) hc2 h hs hl1 (fun _ _ => rfl) (fun _ _ => rfl)
  exact ⟨R, _, r1, r4⟩
/-- what the class finds are these -/
theorem fh_En (hc2 : c ≤ 64) (hl : l ≤ 64) (hs : ∀ a b, a < c → b < c → L a b = L b a) (hL : ∀ a b, a < c → b < c → nrL X Y v a b = L a b) (hE : EnH L c l R n) : (fhF c X Y v (nI l) H c).2.1 = n ∧ ∀ h x, h < n → x < 64 → btL ((fhF c X Y v (nI l) H c).2.2 h) x = decide (x < c ∧ R x = some h) := by
  obtain ⟨M, ld, m1, a1, a2, a3, a4⟩ := hE
  have m2 : mkd (nrL X Y v) c M := mkd_cong (fun a b ha hb => (hL a b ha hb).symm) m1
  obtain ⟨ld2, v1, v2, v3, v4⟩ := fhF_V (H := H) hc2 hl m2 (fun a b ha hb => by rw [hL a b ha hb, hL b a hb ha, hs a b ha hb]) c (Nat.le_refl _)
  generalize fhF c X Y v (nI l) H c = p at v1 v2 v3 v4
  have P1 : ∀ h, h < n → ld h < c ∧ M (ld h) = ld h ∧ l ≤ szM M c (ld h) := a1
  have P2 : ∀ h, h < p.2.1 → ld2 h < c ∧ M (ld2 h) = ld2 h ∧ l ≤ szM M c (ld2 h) := fun h hh => ⟨(v2 h hh).1, (v2 h hh).2.1, (v2 h hh).2.2.1⟩
  have C1 : ∀ k, (k < c ∧ M k = k ∧ l ≤ szM M c k) → ∃ h, h < n ∧ ld h = k := fun k q => a3 k q.1 q.2.1 q.2.2
  have C2 : ∀ k, (k < c ∧ M k = k ∧ l ≤ szM M c k) → ∃ h, h < p.2.1 ∧ ld2 h = k := fun k q => v4 k q.1 q.2.1 q.2.2
  have e1 := enum_one P1 a2 C1 P2 v3 C2
  have e2 := enum_one P2 v3 C2 P1 a2 C1
  have hn : p.2.1 = n := by
    by_cases q : n < p.2.1
    · have := (e2 (n + 1) n (by omega) q).1; omega
    · by_cases q2 : p.2.1 < n
      · have := (e1 (p.2.1 + 1) p.2.1 (by omega) q2).1; omega
      · omega
  refine ⟨hn, fun h x hh hx => ?_⟩
  rw [(v2 h (by omega)).2.2.2 x hx]
  refine decide_eq_decide.mpr ⟨fun q => ⟨q.1, ?_⟩, fun q => ⟨q.1, ?_⟩⟩
  · rw [a4 x h q.1]
    exact ⟨hh, by rw [q.2]; exact ((e1 (h + 1) h (by omega) hh).2).symm⟩
  · have := ((a4 x h q.1).mp q.2).2
    rw [this]
    exact (e1 (h + 1) h (by omega) hh).2
/-- R names the n halos of a slot, by a length and a least number -/
def hOf (σ : Sg) (s : Nat) (R : Nat → Option Nat) (n l t : Nat) : Prop :=
  EnH (lkZ (sX σ s) (sY σ s) l) (sN σ) t R n ∧ 1 ≤ t ∧ t ≤ 64 ∧ l ≤ 2000 ∧ n ≤ 64 ∧ (s = 12 → l = sq σ 5 ∧ t = sq σ 6) ∧ (s < sP σ → R = sH σ s ∧ n = sC σ s ∧ l = sL σ s ∧ t = sT σ s)
theorem hOf_ex (hσ : SOK σ) (hs : sl σ s) : ∃ R n l t, hOf σ s R n l t := by
  have hP := sok_P hσ
  by_cases e : s = 12
  · obtain ⟨R, n, h1, h2⟩ := En_ex (L := lkZ (sX σ s) (sY σ s) (sq σ 5)) (l := sq σ 6) (sok_N hσ).2 (fun a b _ _ => lk_sym) (sok_6 hσ).1
    exact ⟨R, n, _, _, h1, (sok_6 hσ).1, (sok_6 hσ).2, (sok_5 hσ).2, h2, fun _ => ⟨rfl, rfl⟩, fun q => absurd q (by omega)⟩
  · have hp : s < sP σ := by unfold sl at hs; omega
    obtain ⟨h1, h2, h3, h4, h5, h6⟩ := hσ.2.2 s hp
    exact ⟨_, _, _, _, h1, h2, h3, h5, h6, fun q => absurd q e, fun _ => ⟨rfl, rfl, rfl, rfl⟩⟩
/-- a scene with its halos, on the class's side -/
def cSl (σ : Sg) (g : hf_G) (I : hf_I) (J : hf_J) (i : Int32) (s : Nat) (R : Nat → Option Nat) (n l t S : Nat) (I2 : hf_I) (J2 : hf_J) : Prop :=
  SW g I J i S I2 J2 ∧ Sc g S ∧ gA s = S + 1 ∧ (S = 1 ∨ 35 ≤ S ∧ S ≤ 222) ∧ RC σ I2 J2 ∧ kC I I2 J J2 ∧ I2 S 2 = nI n ∧ I2 S 4 = nI t ∧ J2 S 3 = lZ l ∧ ∀ h k, h < n → k < 64 → btL (J2 (S + 11) h) k = decide (k < sN σ ∧ R k = some h)
theorem cls_slot (hσ : SOK σ) (hL : Lay g) (hC : RC σ I J) (hn : slN i s) (hs : sl σ s) (hR : hOf σ s R n l t) : ∃ S I2 J2, cSl σ g I J i s R n l t S I2 J2 := by
  have hP := sok_P hσ
  have hN := sok_N hσ
  obtain ⟨hE, t1, t2, l2, n2, h12, hp⟩ := hR
  rcases hn with ⟨rfl, rfl⟩ | ⟨rfl, hs12⟩
  · obtain ⟨rfl, rfl⟩ := h12 rfl
    have e0 : J 0 7 = lZ (sq σ 5) := hC.1.2.2.2.2.2.1
    have e8 : I 0 8 = nI (sq σ 6) := hC.1.2.2.2.2.2.2.1
    have hw := c_swNow (J := J) (lay_hx hL) (RC_c hC) hN.2
    have hf := fh_En (X := J 4) (Y := J 6) (v := lZ (sq σ 5)) (H := J 12) hN.2 t2 (fun a b _ _ => lk_sym) (fun a b ha hb => nr_z (RC_rw hC) (now_ok hσ) l2 ha hb) hE
    refine ⟨1, _, _, hw, hx_sc1 (lay_hx hL), rfl, Or.inl rfl, ?_, ?_, ?_, ?_, ?_, ?_⟩
    · refine RC_fr hP hC ⟨fun a j ha => ?_, fun a ha => ?_⟩
      · unfold fnI
        rw [ku_ne (by unfold scI at ha; omega), ku_ne (by unfold scI at ha; omega)]
      · unfold fnJ
        rw [kw_ne (by unfold scJ at ha; omega), ku_ne (by unfold scJ at ha; omega)]
    · intro a ha
      unfold fnI fnJ
      rw [ku_ne (by omega), ku_ne (by omega), kw_ne (by omega), ku_ne (by omega)]
      exact ⟨rfl, rfl⟩
    · unfold fnI
      rw [ku_same, e0, e8, hf.1]
    · unfold fnI
      rw [ku_ix (by decide), ku_same, e8]
    · unfold fnJ
      rw [kw_ne (by decide), ku_same, e0]
    · intro h k hh hk
      unfold fnJ
      rw [kw_row, e0, e8]
      exact hf.2 h k hh hk
  · have hp2 : s < sP σ := by unfold sl at hs; omega
    obtain ⟨rfl, rfl, rfl, rfl⟩ := hp hp2
    obtain ⟨r1, r2, r3, r4, -, -⟩ := hC.2.2 s hp2
    exact ⟨34 + 17 * s + 1, I, J, c_swAt (lay_hx hL) (lay_al hL) (RC_P hC) hP hp2, pc_sc1 (al_pc (lay_al hL) s hs12), gA_p hs12, Or.inr (by omega), hC, kC.r, r1, r2, r3, r4⟩
theorem cEX_1 {r : Option hf_R} {e : Nat} (h1 : RC σ I2 J2) (h2 : kC I I2 J J2) (hr : r = some (.inr e, hf_th g, I2, J2)) : cEX σ g I J e r := ⟨_, _, hr, h1, h2⟩
theorem cOK_1 {r : Option hf_R} {w : Option Value} (h1 : RC σ I2 J2) (h2 : kC I I2 J J2) (hr : r = some (.inl w, g, I2, J2)) : cOK σ g I J w r := ⟨_, _, hr, h1, h2⟩
/-- grains as bits -/
def gbS (R : Nat → Option Nat) (c h : Nat) : Int64 := orL c fun k => decide (R k = some h)
theorem gbS_bt (hc2 : c ≤ 64) (hk : k < 64) : btL (gbS R c h) k = decide (k < c ∧ R k = some h) := by
  unfold gbS
  rw [bt_orL hc2 hk, Bool.decide_and]
theorem En_lt (hE : EnH L c l R n) (hk : k < c) (hr : R k = some x) : x < n := by
  obtain ⟨M, ld, -, -, -, -, a4⟩ := hE
  exact ((a4 k x hk).mp hr).1
theorem cSl_b (h1 : cSl σ g I J i s R n l t S I2 J2) (hσ : SOK σ) (hh : h < n) : J2 (S + 11) h = gbS R (sN σ) h := by
  obtain ⟨-, -, -, -, -, -, -, -, -, h9⟩ := h1
  exact bt_ext fun k hk => by rw [h9 h k hh hk, gbS_bt (sok_N hσ).2 hk]
end
