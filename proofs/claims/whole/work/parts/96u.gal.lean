/-! GALAXIES -/
def aQ (Q Q2 : Q4) : Prop := ∀ n, n < 768 → Q.1 n = Q2.1 n ∧ Q.2.1 n = Q2.2.1 n ∧ Q.2.2.1 n = Q2.2.2.1 n ∧ Q.2.2.2 n = Q2.2.2.2 n
section
variable {σ : Sg} {I I2 : hf_I} {J J2 : hf_J} {g : hf_G} {c k f l p n P t a b m : Nat} {i j x y co fo wi : Int32} {cn : Nat → Nat} {nx nx2 : Nat → Nat → Option (Nat × Nat)} {Q Q2 : Q4} {R R2 : Nat → Int32}
theorem up_cg {F G : Nat → Int32} {v w : Int32} (h : F n = G n) (hv : v = w) : up F k v n = up G k w n := by
  subst hv
  by_cases e : n = k
  · rw [e, up_s, up_s]
  · rw [up_n e, up_n e, h]
theorem ck_cg (h : aQ Q Q2) (hk : k < 768) : aQ (ckQ co fo wi k Q) (ckQ co fo wi k Q2) := by
  intro n hn
  obtain ⟨a1, a2, a3, a4⟩ := h n hn
  obtain ⟨k1, k2, k3, k4⟩ := h k hk
  unfold ckQ
  rw [k1, k2, k3, k4]
  exact ⟨up_cg a1 rfl, up_cg a2 rfl, up_cg a3 rfl, up_cg a4 rfl⟩
theorem go_cg (h : aQ Q Q2) (ha : a < 768) (hb : b < 768) : aQ (goQ a b Q) (goQ a b Q2) := by
  intro n hn
  obtain ⟨a1, a2, a3, a4⟩ := h n hn
  obtain ⟨k1, k2, k3, k4⟩ := h a ha
  obtain ⟨l1, l2, l3, l4⟩ := h b hb
  unfold goQ
  rw [k1, k2, k3, k4, l1, l2, l3, l4]
  exact ⟨up_cg a1 rfl, up_cg a2 rfl, up_cg a3 rfl, up_cg a4 rfl⟩
theorem sm_cg (h : aQ Q Q2) (ha : a < 768) : smQ a Q = smQ a Q2 := by
  obtain ⟨k1, k2, k3, k4⟩ := h a ha
  unfold smQ
  rw [k1, k2, k3, k4]
theorem n1_cg (hp : p < 12) (hR : ∀ k, k < c → R (64 * p + k) = R2 (64 * p + k)) (hv : ∀ k, k < c → R (64 * p + k) = -1 ∨ ∃ h, h < 64 ∧ R (64 * p + k) = nI h) (hc : c ≤ 64) {B B2 : Nat → Int32} (hB : ∀ n, n < 64 → B n = B2 n) (hQ : aQ Q Q2) : (∀ n, n < 64 → (n1Q R p (B, Q) c).1 n = (n1Q R2 p (B2, Q2) c).1 n) ∧ aQ (n1Q R p (B, Q) c).2 (n1Q R2 p (B2, Q2) c).2 := by
  refine it_rel (fun (_ : Nat) (u v : (Nat → Int32) × Q4) => (∀ n, n < 64 → u.1 n = v.1 n) ∧ aQ u.2 v.2) ⟨hB, hQ⟩ fun k u v hk huv => ?_
  obtain ⟨h1, h2⟩ := huv
  rw [← hR k hk]
  rcases hv k hk with e | ⟨h, hh, e⟩
  · rw [if_pos e, if_pos e]
    exact ⟨h1, h2⟩
  · have hne : ¬ R (64 * p + k) = -1 := by rw [e]; exact (coM_n hh).1
    rw [if_neg hne, if_neg hne, h1 k (by omega)]
    by_cases c1 : v.1 k = 0
    · rw [if_pos c1, if_pos c1]
      refine ⟨fun n hn => up_cg (h1 n hn) rfl, fun n hn => ?_⟩
      obtain ⟨a1, a2, a3, a4⟩ := h2 n hn
      obtain ⟨k1, -, -, -⟩ := h2 (64 * p + h) (by omega)
      dsimp only
      rw [e, (coM_n hh).2, k1]
      exact ⟨up_cg a1 rfl, a2, a3, a4⟩
    · rw [if_neg c1, if_neg c1]
      exact ⟨h1, h2⟩
theorem n2_cg (hp : p < 12) (ht : t ≤ 64) (hn : ∀ k, k < t → nx p k = nx2 p k) (hx : ∀ k a b, k < t → nx2 p k = some (a, b) → a < 12 ∧ b < 64) {z : Int32} (hQ : aQ Q Q2) : (n2Q nx co fo wi p (z, Q) t).1 = (n2Q nx2 co fo wi p (z, Q2) t).1 ∧ aQ (n2Q nx co fo wi p (z, Q) t).2 (n2Q nx2 co fo wi p (z, Q2) t).2 := by
  refine it_rel (fun (_ : Nat) (u v : Int32 × Q4) => u.1 = v.1 ∧ aQ u.2 v.2) ⟨rfl, hQ⟩ fun k u v hk huv => ?_
  obtain ⟨h1, h2⟩ := huv
  rw [n2S, n2S, hn k hk]
  have hck : aQ (ckQ co fo wi (64 * p + k) u.2) (ckQ co fo wi (64 * p + k) v.2) := ck_cg h2 (by omega)
  cases e : nx2 p k with
  | none =>
    dsimp only
    rw [h1, sm_cg hck (by omega)]
    exact ⟨rfl, hck⟩
  | some w =>
    obtain ⟨a, b⟩ := w
    have := hx k a b hk e
    exact ⟨h1, go_cg hck (by omega) (by omega)⟩
theorem n3_cg (hP : P ≤ 12) (hR : ∀ p k, p < P → k < c → R (64 * p + k) = R2 (64 * p + k)) (hv : ∀ p k, p < P → k < c → R (64 * p + k) = -1 ∨ ∃ h, h < 64 ∧ R (64 * p + k) = nI h) (hc : c ≤ 64) (hcn : ∀ p, p < P → cn p ≤ 64) (hn : ∀ p k, p < P → k < cn p → nx p k = nx2 p k) (hx : ∀ p k a b, p < P → k < cn p → nx2 p k = some (a, b) → a < 12 ∧ b < 64) {B B2 : Nat → Int32} {z : Int32} (hB : ∀ n, n < 64 → B n = B2 n) (hQ : aQ Q Q2) : (n3Q R cn nx co fo wi c (z, B, Q) P).1 = (n3Q R2 cn nx2 co fo wi c (z, B2, Q2) P).1 ∧ aQ (n3Q R cn nx co fo wi c (z, B, Q) P).2.2 (n3Q R2 cn nx2 co fo wi c (z, B2, Q2) P).2.2 := by
  have := it_rel (fun (_ : Nat) (u v : Int32 × (Nat → Int32) × Q4) => u.1 = v.1 ∧ (∀ n, n < 64 → u.2.1 n = v.2.1 n) ∧ aQ u.2.2 v.2.2) (s := (z, B, Q)) (t := (z, B2, Q2)) (n := P) (f := fun p q => ((n2Q nx co fo wi p (q.1, (n1Q R p q.2 c).2) (cn p)).1, (n1Q R p q.2 c).1, (n2Q nx co fo wi p (q.1, (n1Q R p q.2 c).2) (cn p)).2)) (q := fun p q => ((n2Q nx2 co fo wi p (q.1, (n1Q R2 p q.2 c).2) (cn p)).1, (n1Q R2 p q.2 c).1, (n2Q nx2 co fo wi p (q.1, (n1Q R2 p q.2 c).2) (cn p)).2)) ⟨rfl, hB, hQ⟩ fun p u v hp huv => by
    obtain ⟨h1, h2, h3⟩ := huv
    obtain ⟨i1, i2⟩ := n1_cg (by omega : p < 12) (fun k hk => hR p k hp hk) (fun k hk => hv p k hp hk) hc h2 h3
    obtain ⟨i3, i4⟩ := n2_cg (co := co) (fo := fo) (wi := wi) (z := u.1) (by omega : p < 12) (hcn p hp) (fun k hk => hn p k hp hk) (fun k a b hk => hx p k a b hp hk) i2
    dsimp only
    rw [← h1]
    exact ⟨i3, i1, i4⟩
  exact ⟨this.1, this.2.2⟩
theorem gl_S (hσ : SOK σ) (hM : RM σ I J) : (glM I (sN σ) (sP σ) (sC σ)).1 = (glS σ).1 ∧ aQ (glM I (sN σ) (sP σ) (sC σ)).2.2 (glS σ).2.2 := by
  have hP := sok_P hσ
  have hN := sok_N hσ
  unfold glM glS
  rw [hM.1 7 (by decide), hM.1 8 (by decide), hM.1 9 (by decide)]
  refine n3_cg hP (fun p k hp hk => ?_) (fun p k hp hk => ?_) hN.2 (fun p hp => sok_C hσ hp) (fun p k hp hk => ?_) (fun p k a b hp hk h => ?_) (fun n hn => if_pos hn) (fun n hn => ⟨if_pos hn, if_pos hn, if_pos hn, if_pos hn⟩)
  · rw [(hM.2.2 p hp).2 k hk, RwH_k (by omega)]
  · rw [(hM.2.2 p hp).2 k hk]
    cases h : sH σ p k with
    | none => exact Or.inl rfl
    | some f => exact Or.inr ⟨f, by have := sok_H hσ hp hk h; have := sok_C hσ hp; omega, rfl⟩
  · have := sok_C hσ hp
    exact nxM_S hσ hM (by omega)
  · have := sok_C hσ hp
    obtain ⟨h1, h2, h3⟩ := nxS_lt hσ (by omega) h
    have := sok_C hσ h2
    exact ⟨by omega, by omega⟩
theorem RM_gQ {H B : Nat → Int32} (hσ : SOK σ) (hM : RM σ I J) : RM σ (gQ (thI I 0) H B Q) J ∧ gQ (thI I 0) H B Q 270 38 = 0 ∧ kM I (gQ (thI I 0) H B Q) J J := by
  have e : ∀ a, a < 277 ∨ 292 ≤ a → gQ (thI I 0) H B Q a = thI I 0 a := fun a ha => by
    unfold gQ
    rw [if_neg (by omega), if_neg (by omega), if_neg (by omega), if_neg (by omega), if_neg (by omega), if_neg (by omega)]
  refine ⟨RM_fr (sok_P hσ) (sok_N hσ).2 hM ⟨fun a b ha => ?_, fun _ _ => rfl⟩, ?_, fun a ha => ⟨?_, rfl⟩⟩
  · rw [e a (by unfold quI at ha; omega), th_q ha]
  · rw [e 270 (by omega), th_38]
  · rw [e a (by omega), th_r (by omega)]
theorem agr_galaxy (hσ : SOK σ) : agr 1 cdIA σ (fun g I J => hf_rn 129 0 [some (.ref 0), some (.int i), some (.int j), some (.int x)] [] g I J) (fun g I J => hf_rn 210 0 [some (.ref 270), some (.int i), some (.int j), some (.int x), none, none] [] g I J) := by
  have hb : inI x.toInt64 0 3 = rgB 0 3 x := rgB_in (by decide) (by decide)
  by_cases hx : isK σ i j
  · obtain ⟨p, k, hp, hk, rfl, rfl⟩ := hx
    have hP := sok_P hσ
    have hkc := sok_C hσ hp
    by_cases hr : rgB 0 3 x = true
    · have hi := hb.trans hr
      obtain ⟨m, -, m2, rfl⟩ := rgB_t (by decide) (by decide) hr
      refine Or.inl ⟨σ, some (.int (qkM (glS σ).2.2 (nI m) (64 * p + k))), hσ, ⟨_, rfl⟩, fun g I J hL hW hC => ?_, fun g I J hL hM => ?_⟩
      · have hr := c_galaxyF (lay_hx hL) (lay_n hL) (RC_alb hσ hL hC) hp hk (show m < 4 by omega)
        obtain ⟨g1, g2, g3, g4⟩ := (hC.2.2 p hp).2.2.2.2.2 k hk
        have e : (J (34 + 17 * p + 16) (4 * k + m)).toInt32 = qkM (glS σ).2.2 (nI m) (64 * p + k) := by
          have : m = 0 ∨ m = 1 ∨ m = 2 ∨ m = 3 := by omega
          rcases this with rfl | rfl | rfl | rfl
          · rw [show 4 * k + 0 = 4 * k from rfl, g1]; exact Int32.toInt32_toInt64 _
          · rw [g2]; exact Int32.toInt32_toInt64 _
          · rw [g3]; exact Int32.toInt32_toInt64 _
          · rw [g4]; exact Int32.toInt32_toInt64 _
        rw [e] at hr
        exact cOK_0 hC hr
      · obtain ⟨H, -, hr⟩ := m_galaxyF (J := J) (lay_md hL) (RM_mdp hσ hM) hp hk hi
        obtain ⟨a1, a2, a3, a4⟩ := (gl_S hσ hM).2 (64 * p + k) (by omega)
        have e : qkM (glM I (sN σ) (sP σ) (sC σ)).2.2 (nI m) (64 * p + k) = qkM (glS σ).2.2 (nI m) (64 * p + k) := by
          unfold qkM
          rw [a1, a2, a3, a4]
        rw [e] at hr
        obtain ⟨h1, h2, h3⟩ := RM_gQ (H := H) (B := (glM I (sN σ) (sP σ) (sC σ)).2.1) (Q := (glM I (sN σ) (sP σ) (sC σ)).2.2) hσ hM
        exact ⟨_, _, hr, h1, h2, h3⟩
    · exact Or.inr ⟨1, some (.int 0), Or.inl rfl, (by decide : ¬ cdIA 1 = 0), ⟨_, rfl⟩, fun g I J hL hW hC => cEX_0 hC (c_galaxyX1 (lay_hx hL) (lay_n hL) (RC_alb hσ hL hC) hp hk (rgB_f hr)), fun g I J hL hM => mOK_th hσ hM (m_galaxyX (lay_md hL) true (m_isOldT (lay_md hL) (RM_mdp hσ hM) hp hk) (by rw [hb, Bool.eq_false_iff.mpr hr]; rfl))⟩
  · exact Or.inr ⟨3, some (.int 0), Or.inr (Or.inr rfl), (by decide : ¬ cdIA 3 = 0), ⟨_, rfl⟩, fun g I J hL hW hC => cEX_0 hC (c_galaxyX (lay_hx hL) (nx_ok hσ hL hC hx)), fun g I J hL hM => mOK_th hσ hM (m_galaxyX (lay_md hL) false (mo_ok hσ hL hM hx) rfl)⟩
end
