/-! THE LAW: ONE CALL -/
section
variable {σ σ2 : Sg} {g g2 : hf_G} {I I2 I4 : hf_I} {J J2 J4 : hf_J} {L t n a b kd : Nat} {xs : Nat → Int32} {i j x y kx ky ki kj v : Int32} {u : Int64} {C M W : hf_G → hf_I → hf_J → Option hf_R} {cd : Nat → Int32} {P : Option hf_R → Prop} {l5 l6 l7 : Option Value}
/-- what holds between two calls -/
def LI (L : Nat) (xs : Nat → Int32) (σ : Sg) (g : hf_G) (I : hf_I) (J : hf_J) : Prop := SOK σ ∧ Lay g ∧ Wv g I ∧ RC σ I J ∧ RM σ I J ∧ hf_k g 1000001 = (6, L) ∧ hf_k g 292 = (3, 1) ∧ I 1000001 = xs
/-- the answer as the law keeps it -/
def outJ (v : Option Value) (J : hf_J) : hf_J := match v with
  | some (.int x) => hf_u J 292 0 x.toInt64
  | some (.long u) => hf_u J 292 0 u
  | _ => J
theorem outJ_n {v : Option Value} (h : a ≠ 292) : outJ v J a = J a := by
  unfold outJ
  split
  · exact ku_ne h
  · exact ku_ne h
  · rfl
theorem outJ_s {v : Option Value} (h : J4 292 = outJ v J2 292) : outJ v J4 292 0 = J4 292 0 := by
  cases v with
  | none => rfl
  | some x => cases x with
    | int x =>
      rw [h]
      show hf_u J4 292 0 x.toInt64 292 0 = hf_u J2 292 0 x.toInt64 292 0
      rw [ku_same, ku_same]
    | long u =>
      rw [h]
      show hf_u J4 292 0 u 292 0 = hf_u J2 292 0 u 292 0
      rw [ku_same, ku_same]
    | _ => rfl
theorem LI_next (hI : LI L xs σ g I J) (hσ2 : SOK σ2) (c2 : RC σ2 I2 J2) (c3 : kC I I2 J J2) {v : Option Value} (m2 : RM σ2 I4 J4) (m4 : kM I2 I4 (outJ v J2) J4) (hL2 : Lay g2) (hk : hf_k g2 = hf_k g) : LI L xs σ2 g2 I4 J4 ∧ I2 1000001 = xs := by
  obtain ⟨hσ, hL, hW, hC, hM, hk1, hk2, hx⟩ := hI
  have hC2 : RC σ2 I2 (outJ v J2) := RC_fr (sok_P hσ2) c2 ⟨fun _ _ _ => rfl, fun a ha => outJ_n (by unfold scJ at ha; omega)⟩
  have e1 : I2 1000001 = xs := by rw [(c3 1000001 (by omega)).1]; exact hx
  refine ⟨⟨hσ2, hL2, ⟨by rw [hk]; exact hW.1, ?_⟩, RC_kM (sok_P hσ2) hC2 m4, m2, by rw [hk]; exact hk1, by rw [hk]; exact hk2, ?_⟩, e1⟩
  · rw [(m4 1000002 (by omega)).1, (c3 1000002 (by omega)).1]; exact hW.2
  · rw [(m4 1000001 (by omega)).1]; exact e1
theorem RM_out (hσ : SOK σ) (hM : RM σ I J) (c3 : kC I I2 J J2) {v : Option Value} : RM σ I2 (outJ v J2) := RM_fr (sok_P hσ) (sok_N hσ).2 hM ⟨fun a j ha => by rw [(c3 a (by unfold quI at ha; omega)).1], fun a ha => by rw [outJ_n (by unfold quJ at ha; omega), (c3 a (by unfold quJ at ha; omega)).2]⟩
def lw2 (kd L : Nat) (xs : Nat → Int32) (g : hf_G) (I : hf_I) (J : hf_J) (W M : hf_G → hf_I → hf_J → Option hf_R) : Prop :=
  (∃ σ2 v I2 J2 I4 J4, tyV kd v ∧ W g I J = some (.inl (some (.int 0)), g, I2, J2) ∧ M g I2 J2 = some (.inl v, g, I4, J4) ∧ outJ v J4 292 0 = J4 292 0 ∧ I4 270 38 = 0 ∧ LI L xs σ2 g I4 J4 ∧ I2 1000001 = xs) ∨
  (∃ σ2 k w I2 J2 I4 J4, tyV kd w ∧ ¬ k = 0 ∧ W g I J = some (.inl (some (.int k)), hf_th g, I2, J2) ∧ M (hf_th g) I2 J2 = some (.inl w, hf_th g, I4, J4) ∧ I4 270 38 = k ∧ LI L xs σ2 (hf_th g) I4 J4 ∧ I2 1000001 = xs)
theorem lw2_of (hA : agr kd cd σ C M) (hI : LI L xs σ g I J) (hW0 : ∀ g I J I2 J2 v, Lay g → hf_k g 292 = (3, 1) → tyV kd v → C g I J = some (.inl v, g, I2, J2) → W g I J = some (.inl (some (.int 0)), g, I2, outJ v J2)) (hWX : ∀ e g I J I2 J2, (e = 1 ∨ e = 2 ∨ e = 3) → ¬ cd e = 0 → Lay g → C g I J = some (.inr e, hf_th g, I2, J2) → W g I J = some (.inl (some (.int (cd e))), hf_th g, I2, J2)) : lw2 kd L xs g I J W M := by
  have hI0 := hI
  obtain ⟨hσ, hL, hW, hC, hM, hk1, hk2, hx⟩ := hI0
  rcases hA with ⟨σ2, v, hσ2, hv, c, m⟩ | ⟨e, w, he, hce, hw, c, m⟩
  · obtain ⟨I2, J2, c1, c2, c3⟩ := c g I J hL hW hC
    have w1 := hW0 g I J I2 J2 v hL hk2 hv c1
    obtain ⟨I4, J4, m1, m2, m3, m4⟩ := m g I2 (outJ v J2) hL (RM_out hσ hM c3)
    obtain ⟨n1, n2⟩ := LI_next hI hσ2 c2 c3 m2 m4 hL rfl
    exact Or.inl ⟨σ2, v, I2, outJ v J2, I4, J4, hv, w1, m1, outJ_s (J2 := J2) (m4 292 (by omega)).2, m3, n1, n2⟩
  · obtain ⟨I2, J2, c1, c2, c3⟩ := c g I J hL hW hC
    have w1 := hWX e g I J I2 J2 he hce hL c1
    have hM2 : RM σ I2 J2 := RM_out (v := none) hσ hM c3
    obtain ⟨I4, J4, m1, m2, m3, m4⟩ := m (hf_th g) I2 J2 hL.th hM2
    obtain ⟨n1, n2⟩ := LI_next (v := none) hI hσ c2 c3 m2 m4 hL.th rfl
    exact Or.inr ⟨σ, cd e, w, I2, J2, I4, J4, hw, hce, w1, m1, m3, n1, n2⟩
def lv2 (kd L : Nat) (xs : Nat → Int32) (g : hf_G) (I : hf_I) (J : hf_J) (C M : hf_G → hf_I → hf_J → Option hf_R) : Prop :=
  ∃ σ2 v I2 J2 I4 J4, tyV kd v ∧ C g I J = some (.inl v, g, I2, J2) ∧ M g I2 J2 = some (.inl v, g, I4, J4) ∧ LI L xs σ2 g I4 J4 ∧ I2 1000001 = xs
theorem lv2_of (hA : agv kd σ C M) (hI : LI L xs σ g I J) : lv2 kd L xs g I J C M := by
  have hI0 := hI
  obtain ⟨hσ, hL, hW, hC, hM, hk1, hk2, hx⟩ := hI0
  obtain ⟨σ2, v, hσ2, hv, c, m⟩ := hA
  obtain ⟨I2, J2, c1, c2, c3⟩ := c g I J hL hW hC
  obtain ⟨I4, J4, m1, m2, m3, m4⟩ := m g I2 J2 hL (RM_out (v := none) hσ hM c3)
  obtain ⟨n1, n2⟩ := LI_next (v := none) hI hσ2 c2 c3 m2 m4 hL rfl
  exact ⟨σ2, v, I2, J2, I4, J4, hv, c1, m1, n1, n2⟩
/-- what follows a call -/
def Cont (L : Nat) (xs : Nat → Int32) (g : hf_G) (t : Nat) (P : Option hf_R → Prop) : Prop := ∀ σ g2 I J l5 l6 l7, LI L xs σ g2 I J → hf_c g2 ≤ hf_c g + 1 ∧ hf_s g2 ≤ hf_s g + 6 → P (hf_rn 254 23 [some (.ref 1000001), some (.ref 0), some (.ref 270), some (.ref 292), some (.int (nI (5 * (t + 1)))), l5, l6, l7] [] g2 I J)
theorem ads (t : Nat) : nI (5 * t) + 1 = nI (5 * t + 1) ∧ nI (5 * t) + 2 = nI (5 * t + 2) ∧ nI (5 * t) + 3 = nI (5 * t + 3) ∧ nI (5 * t) + 4 = nI (5 * t + 4) ∧ nI (5 * t) + 5 = nI (5 * (t + 1)) := ⟨nI_add _ 1, nI_add _ 2, nI_add _ 3, nI_add _ 4, (nI_add _ 5).trans (by congr 1)⟩
theorem ins (h : a < L) (hL : L ≤ 2560) : hf_in (nI a) L = true ∧ (nI a).toNatClampNeg = a := ⟨by rw [z_in (by omega)]; exact decide_eq_true h, z_cl (by omega)⟩
theorem lwf_universe (hI : LI L xs σ g I J) : lw2 1 L xs g I J (fun g I J => hf_rn 231 0 [some (.ref 0), some (.int i), some (.ref 292), none] [] g I J) (fun g I J => hf_rn 161 0 [some (.ref 270), some (.int i)] [] g I J) :=
  lw2_of (agr_universe hI.1) hI (fun g I J I2 J2 v hL ho hv hC => by obtain ⟨x, rfl⟩ := hv; exact w_universe (lay_hx hL) ho hC) (fun e g I J I2 J2 he hce hL hC => by rcases he with rfl | rfl | rfl <;> first | exact absurd rfl hce | exact w_universeX1 (lay_hx hL) hC)
theorem lwf_ripple (hI : LI L xs σ g I J) : lw2 0 L xs g I J (fun g I J => hf_rn 232 0 [some (.ref 0), some (.int kx), some (.int ky), some (.int ki), some (.int kj), none] [] g I J) (fun g I J => hf_rn 164 0 [some (.ref 270), some (.int kx), some (.int ky), some (.int ki), some (.int kj), none] [] g I J) :=
  lw2_of (agr_ripple hI.1) hI (fun g I J I2 J2 v hL ho hv hC => by subst hv; exact w_ripple (lay_hx hL) hC) (fun e g I J I2 J2 he hce hL hC => by rcases he with rfl | rfl | rfl <;> first | exact absurd rfl hce | exact w_rippleX1 (lay_hx hL) hC | exact w_rippleX2 (lay_hx hL) hC)
theorem lwf_draw (hI : LI L xs σ g I J) : lw2 1 L xs g I J (fun g I J => hf_rn 233 0 [some (.ref 0), some (.int i), some (.int j), some (.ref 292), none] [] g I J) (fun g I J => hf_rn 165 0 [some (.ref 270), some (.int i), some (.int j), none, none, none, none, none, none, none] [] g I J) :=
  lw2_of (agr_draw hI.1) hI (fun g I J I2 J2 v hL ho hv hC => by obtain ⟨x, rfl⟩ := hv; exact w_draw (lay_hx hL) ho hC) (fun e g I J I2 J2 he hce hL hC => by rcases he with rfl | rfl | rfl <;> first | exact absurd rfl hce | exact w_drawX1 (lay_hx hL) hC | exact w_drawX2 (lay_hx hL) hC)
theorem lwf_grain (hI : LI L xs σ g I J) : lw2 2 L xs g I J (fun g I J => hf_rn 234 0 [some (.ref 0), some (.int i), some (.int j), some (.int x), some (.ref 292), none] [] g I J) (fun g I J => hf_rn 169 0 [some (.ref 270), some (.int i), some (.int j), some (.int x), none] [] g I J) :=
  lw2_of (agr_grain hI.1) hI (fun g I J I2 J2 v hL ho hv hC => by obtain ⟨x, rfl⟩ := hv; exact w_grain (lay_hx hL) ho hC) (fun e g I J I2 J2 he hce hL hC => by rcases he with rfl | rfl | rfl <;> first | exact absurd rfl hce | exact w_grainX3 (lay_hx hL) hC | exact w_grainX1 (lay_hx hL) hC)
theorem lwf_pull (hI : LI L xs σ g I J) : lw2 0 L xs g I J (fun g I J => hf_rn 235 0 [some (.ref 0), some (.int i), some (.int j), none] [] g I J) (fun g I J => hf_rn 170 0 [some (.ref 270), some (.int i), some (.int j)] [] g I J) :=
  lw2_of (agr_pull hI.1) hI (fun g I J I2 J2 v hL ho hv hC => by subst hv; exact w_pull (lay_hx hL) hC) (fun e g I J I2 J2 he hce hL hC => by rcases he with rfl | rfl | rfl <;> first | exact absurd rfl hce | exact w_pullX1 (lay_hx hL) hC)
theorem lwf_step (hI : LI L xs σ g I J) : lw2 1 L xs g I J (fun g I J => hf_rn 237 0 [some (.ref 0), some (.int i), some (.ref 292), none] [] g I J) (fun g I J => hf_rn 179 0 [some (.ref 270), some (.int i), none] [] g I J) :=
  lw2_of (agr_step hI.1) hI (fun g I J I2 J2 v hL ho hv hC => by obtain ⟨x, rfl⟩ := hv; exact w_step (lay_hx hL) ho hC) (fun e g I J I2 J2 he hce hL hC => by rcases he with rfl | rfl | rfl <;> first | exact absurd rfl hce | exact w_stepX1 (lay_hx hL) hC | exact w_stepX2 (lay_hx hL) hC)
theorem lwf_link (hI : LI L xs σ g I J) : lw2 0 L xs g I J (fun g I J => hf_rn 238 0 [some (.ref 0), some (.int i), some (.int j), none] [] g I J) (fun g I J => hf_rn 181 0 [some (.ref 270), some (.int i), some (.int j)] [] g I J) :=
  lw2_of (agr_link hI.1) hI (fun g I J I2 J2 v hL ho hv hC => by subst hv; exact w_link (lay_hx hL) hC) (fun e g I J I2 J2 he hce hL hC => by rcases he with rfl | rfl | rfl <;> first | exact absurd rfl hce | exact w_linkX1 (lay_hx hL) hC)
theorem lwf_halos (hI : LI L xs σ g I J) : lw2 1 L xs g I J (fun g I J => hf_rn 239 0 [some (.ref 0), some (.int i), some (.ref 292), none] [] g I J) (fun g I J => hf_rn 185 0 [some (.ref 270), some (.int i)] [] g I J) :=
  lw2_of (agr_halos hI.1) hI (fun g I J I2 J2 v hL ho hv hC => by obtain ⟨x, rfl⟩ := hv; exact w_halos (lay_hx hL) ho hC) (fun e g I J I2 J2 he hce hL hC => by rcases he with rfl | rfl | rfl <;> first | exact absurd rfl hce | exact w_halosX3 (lay_hx hL) hC)
theorem lwf_halosAnew (hI : LI L xs σ g I J) : lw2 1 L xs g I J (fun g I J => hf_rn 240 0 [some (.ref 0), some (.int i), some (.ref 292), none] [] g I J) (fun g I J => hf_rn 186 0 [some (.ref 270), some (.int i)] [] g I J) :=
  lw2_of (agr_halosAnew hI.1) hI (fun g I J I2 J2 v hL ho hv hC => by obtain ⟨x, rfl⟩ := hv; exact w_halosAnew (lay_hx hL) ho hC) (fun e g I J I2 J2 he hce hL hC => by rcases he with rfl | rfl | rfl <;> first | exact absurd rfl hce | exact w_halosAnewX3 (lay_hx hL) hC)
theorem lwf_grains (hI : LI L xs σ g I J) : lw2 2 L xs g I J (fun g I J => hf_rn 241 0 [some (.ref 0), some (.int i), some (.int j), some (.ref 292), none] [] g I J) (fun g I J => hf_rn 189 0 [some (.ref 270), some (.int i), some (.int j), none, none, none, none] [] g I J) :=
  lw2_of (agr_grains hI.1) hI (fun g I J I2 J2 v hL ho hv hC => by obtain ⟨x, rfl⟩ := hv; exact w_grains (lay_hx hL) ho hC) (fun e g I J I2 J2 he hce hL hC => by rcases he with rfl | rfl | rfl <;> first | exact absurd rfl hce | exact w_grainsX3 (lay_hx hL) hC)
theorem lwf_ofHalo (hI : LI L xs σ g I J) : lw2 2 L xs g I J (fun g I J => hf_rn 242 0 [some (.ref 0), some (.int i), some (.int j), some (.int y), some (.ref 292), none] [] g I J) (fun g I J => hf_rn 192 0 [some (.ref 270), some (.int i), some (.int j), some (.int y), none] [] g I J) :=
  lw2_of (agr_ofHalo hI.1) hI (fun g I J I2 J2 v hL ho hv hC => by obtain ⟨x, rfl⟩ := hv; exact w_ofHalo (lay_hx hL) ho hC) (fun e g I J I2 J2 he hce hL hC => by rcases he with rfl | rfl | rfl <;> first | exact absurd rfl hce | exact w_ofHaloX3 (lay_hx hL) hC | exact w_ofHaloX1 (lay_hx hL) hC)
theorem lwf_bound (hI : LI L xs σ g I J) : lw2 2 L xs g I J (fun g I J => hf_rn 243 0 [some (.ref 0), some (.int i), some (.int j), some (.ref 292), none] [] g I J) (fun g I J => hf_rn 195 0 [some (.ref 270), some (.int i), some (.int j), none, none, none, none] [] g I J) :=
  lw2_of (agr_bound hI.1) hI (fun g I J I2 J2 v hL ho hv hC => by obtain ⟨x, rfl⟩ := hv; exact w_bound (lay_hx hL) ho hC) (fun e g I J I2 J2 he hce hL hC => by rcases he with rfl | rfl | rfl <;> first | exact absurd rfl hce | exact w_boundX3 (lay_hx hL) hC)
theorem lwf_keep (hI : LI L xs σ g I J) : lw2 1 L xs g I J (fun g I J => hf_rn 244 0 [some (.ref 0), some (.ref 292), none] [] g I J) (fun g I J => hf_rn 196 0 [some (.ref 270), none, none, none] [] g I J) :=
  lw2_of (agr_keep hI.1) hI (fun g I J I2 J2 v hL ho hv hC => by obtain ⟨x, rfl⟩ := hv; exact w_keep (lay_hx hL) ho hC) (fun e g I J I2 J2 he hce hL hC => by rcases he with rfl | rfl | rfl <;> first | exact absurd rfl hce | exact w_keepX2 (lay_hx hL) hC)
theorem lwf_next (hI : LI L xs σ g I J) : lw2 1 L xs g I J (fun g I J => hf_rn 245 0 [some (.ref 0), some (.int i), some (.int j), some (.ref 292), none] [] g I J) (fun g I J => hf_rn 199 0 [some (.ref 270), some (.int i), some (.int j)] [] g I J) :=
  lw2_of (agr_next hI.1) hI (fun g I J I2 J2 v hL ho hv hC => by obtain ⟨x, rfl⟩ := hv; exact w_next (lay_hx hL) ho hC) (fun e g I J I2 J2 he hce hL hC => by rcases he with rfl | rfl | rfl <;> first | exact absurd rfl hce | exact w_nextX3 (lay_hx hL) hC)
theorem lwf_from (hI : LI L xs σ g I J) : lw2 1 L xs g I J (fun g I J => hf_rn 246 0 [some (.ref 0), some (.int i), some (.int j), some (.ref 292), none] [] g I J) (fun g I J => hf_rn 202 0 [some (.ref 270), some (.int i), some (.int j)] [] g I J) :=
  lw2_of (agr_from hI.1) hI (fun g I J I2 J2 v hL ho hv hC => by obtain ⟨x, rfl⟩ := hv; exact w_from (lay_hx hL) ho hC) (fun e g I J I2 J2 he hce hL hC => by rcases he with rfl | rfl | rfl <;> first | exact absurd rfl hce | exact w_fromX3 (lay_hx hL) hC)
theorem lwf_tree (hI : LI L xs σ g I J) : lw2 1 L xs g I J (fun g I J => hf_rn 247 0 [some (.ref 0), some (.int i), some (.int j), some (.int x), some (.ref 292), none] [] g I J) (fun g I J => hf_rn 205 0 [some (.ref 270), some (.int i), some (.int j), some (.int x), none] [] g I J) :=
  lw2_of (agr_tree hI.1) hI (fun g I J I2 J2 v hL ho hv hC => by obtain ⟨x, rfl⟩ := hv; exact w_tree (lay_hx hL) ho hC) (fun e g I J I2 J2 he hce hL hC => by rcases he with rfl | rfl | rfl <;> first | exact absurd rfl hce | exact w_treeX3 (lay_hx hL) hC | exact w_treeX1 (lay_hx hL) hC)
theorem lwf_recipes (hI : LI L xs σ g I J) : lw2 0 L xs g I J (fun g I J => hf_rn 248 0 [some (.ref 0), some (.int i), some (.int j), some (.int x), none] [] g I J) (fun g I J => hf_rn 206 0 [some (.ref 270), some (.int i), some (.int j), some (.int x)] [] g I J) :=
  lw2_of (agr_recipes hI.1) hI (fun g I J I2 J2 v hL ho hv hC => by subst hv; exact w_recipes (lay_hx hL) hC) (fun e g I J I2 J2 he hce hL hC => by rcases he with rfl | rfl | rfl <;> first | exact absurd rfl hce | exact w_recipesX1 (lay_hx hL) hC)
theorem lwf_galaxy (hI : LI L xs σ g I J) : lw2 1 L xs g I J (fun g I J => hf_rn 249 0 [some (.ref 0), some (.int i), some (.int j), some (.int x), some (.ref 292), none] [] g I J) (fun g I J => hf_rn 210 0 [some (.ref 270), some (.int i), some (.int j), some (.int x), none, none] [] g I J) :=
  lw2_of (agr_galaxy hI.1) hI (fun g I J I2 J2 v hL ho hv hC => by obtain ⟨x, rfl⟩ := hv; exact w_galaxy (lay_hx hL) ho hC) (fun e g I J I2 J2 he hce hL hC => by rcases he with rfl | rfl | rfl <;> first | exact absurd rfl hce | exact w_galaxyX3 (lay_hx hL) hC | exact w_galaxyX1 (lay_hx hL) hC)
theorem lwf_observe (hI : LI L xs σ g I J) : lw2 0 L xs g I J (fun g I J => hf_rn 250 0 [some (.ref 0), some (.int i), some (.int j), some (.int x), none] [] g I J) (fun g I J => hf_rn 212 0 [some (.ref 270), some (.int i), some (.int j), some (.int x)] [] g I J) :=
  lw2_of (agr_observe hI.1) hI (fun g I J I2 J2 v hL ho hv hC => by subst hv; exact w_observe (lay_hx hL) hC) (fun e g I J I2 J2 he hce hL hC => by rcases he with rfl | rfl | rfl <;> first | exact absurd rfl hce | exact w_observeX1 (lay_hx hL) hC)
theorem lwf_survey (hI : LI L xs σ g I J) : lw2 0 L xs g I J (fun g I J => hf_rn 251 0 [some (.ref 0), some (.int i), some (.int j), none] [] g I J) (fun g I J => hf_rn 213 0 [some (.ref 270), some (.int i), some (.int j)] [] g I J) :=
  lw2_of (agr_survey hI.1) hI (fun g I J I2 J2 v hL ho hv hC => by subst hv; exact w_survey (lay_hx hL) hC) (fun e g I J I2 J2 he hce hL hC => by rcases he with rfl | rfl | rfl <;> first | exact absurd rfl hce | exact w_surveyX1 (lay_hx hL) hC)
theorem lwf_sky (hI : LI L xs σ g I J) : lw2 1 L xs g I J (fun g I J => hf_rn 252 0 [some (.ref 0), some (.int i), some (.int j), some (.ref 292), none] [] g I J) (fun g I J => hf_rn 220 0 [some (.ref 270), some (.int i), some (.int j)] [] g I J) :=
  lw2_of (agr_sky hI.1) hI (fun g I J I2 J2 v hL ho hv hC => by obtain ⟨x, rfl⟩ := hv; exact w_sky (lay_hx hL) ho hC) (fun e g I J I2 J2 he hce hL hC => by rcases he with rfl | rfl | rfl <;> first | exact absurd rfl hce | exact w_skyX3 (lay_hx hL) hC | exact w_skyX1 (lay_hx hL) hC)
theorem lwf_pairs (hI : LI L xs σ g I J) : lw2 1 L xs g I J (fun g I J => hf_rn 253 0 [some (.ref 0), some (.int i), some (.int j), some (.ref 292), none] [] g I J) (fun g I J => hf_rn 221 0 [some (.ref 270), some (.int i), some (.int j), none, none, none, none] [] g I J) :=
  lw2_of (agr_pairs hI.1) hI (fun g I J I2 J2 v hL ho hv hC => by obtain ⟨x, rfl⟩ := hv; exact w_pairs (lay_hx hL) ho hC) (fun e g I J I2 J2 he hce hL hC => by rcases he with rfl | rfl | rfl <;> first | exact absurd rfl hce | exact w_pairsX1 (lay_hx hL) hC)
theorem lwf_forceX (hI : LI L xs σ g I J) : lw2 2 L xs g I J (fun g I J => hf_rn 236 0 [some (.ref 0), some (.int i), some (.int 1), some (.int 0), some (.ref 292), none] [] g I J) (fun g I J => hf_rn 177 0 [some (.ref 270), some (.int i), some (.int 1), some (.int 0), none, none, none] [] g I J) :=
  lw2_of (agr_forceX hI.1) hI (fun g I J I2 J2 v hL ho hv hC => by obtain ⟨x, rfl⟩ := hv; exact w_force (lay_hx hL) ho hC) (fun e g I J I2 J2 he hce hL hC => by rcases he with rfl | rfl | rfl <;> first | exact absurd rfl hce | exact w_forceX3 (lay_hx hL) hC)
theorem lwf_forceY (hI : LI L xs σ g I J) : lw2 2 L xs g I J (fun g I J => hf_rn 236 0 [some (.ref 0), some (.int i), some (.int 0), some (.int 0), some (.ref 292), none] [] g I J) (fun g I J => hf_rn 177 0 [some (.ref 270), some (.int i), some (.int 0), some (.int 0), none, none, none] [] g I J) :=
  lw2_of (agr_forceY hI.1) hI (fun g I J I2 J2 v hL ho hv hC => by obtain ⟨x, rfl⟩ := hv; exact w_force (lay_hx hL) ho hC) (fun e g I J I2 J2 he hce hL hC => by rcases he with rfl | rfl | rfl <;> first | exact absurd rfl hce | exact w_forceX3 (lay_hx hL) hC)
theorem lwf_forceCX (hI : LI L xs σ g I J) : lw2 2 L xs g I J (fun g I J => hf_rn 236 0 [some (.ref 0), some (.int i), some (.int 1), some (.int 1), some (.ref 292), none] [] g I J) (fun g I J => hf_rn 177 0 [some (.ref 270), some (.int i), some (.int 1), some (.int 1), none, none, none] [] g I J) :=
  lw2_of (agr_forceCX hI.1) hI (fun g I J I2 J2 v hL ho hv hC => by obtain ⟨x, rfl⟩ := hv; exact w_force (lay_hx hL) ho hC) (fun e g I J I2 J2 he hce hL hC => by rcases he with rfl | rfl | rfl <;> first | exact absurd rfl hce | exact w_forceX3 (lay_hx hL) hC)
theorem lwf_forceCY (hI : LI L xs σ g I J) : lw2 2 L xs g I J (fun g I J => hf_rn 236 0 [some (.ref 0), some (.int i), some (.int 0), some (.int 1), some (.ref 292), none] [] g I J) (fun g I J => hf_rn 177 0 [some (.ref 270), some (.int i), some (.int 0), some (.int 1), none, none, none] [] g I J) :=
  lw2_of (agr_forceCY hI.1) hI (fun g I J I2 J2 v hL ho hv hC => by obtain ⟨x, rfl⟩ := hv; exact w_force (lay_hx hL) ho hC) (fun e g I J I2 J2 he hce hL hC => by rcases he with rfl | rfl | rfl <;> first | exact absurd rfl hce | exact w_forceX3 (lay_hx hL) hC)
theorem lc_universe (hI : LI L xs σ g I J) (ht : 5 * t + 5 ≤ L) (hL : L ≤ 2560) (hK : Cont L xs g t P) : P (hf_rn 254 160 [some (.ref 1000001), some (.ref 0), some (.ref 270), some (.ref 292), some (.int (nI (5 * t))), l5, l6, l7] [] g I J) := by
  obtain ⟨ad1, ad2, ad3, ad4, ad5⟩ := ads t
  obtain ⟨in1, cl1⟩ := ins (a := 5 * t + 1) (L := L) (by omega) hL
  have hk1 : hf_k g 1000001 = (6, L) := hI.2.2.2.2.2.1
  have hk2 : hf_k g 292 = (3, 1) := hI.2.2.2.2.2.2.1
  have hx0 : I 1000001 = xs := hI.2.2.2.2.2.2.2
  have hL0 := hI.2.1
  have kc : hf_k g 0 = (0, 9) := hx_k (lay_hx hL0)
  have km : hf_k g 270 = (0, 10) := (lay_md hL0).1
  rcases lwf_universe (i := xs (5 * t + 1)) hI with ⟨σ2, v, I2, J2, I4, J4, hv, hw, hm, ho, h38, hI4, hx⟩ | ⟨σ2, k, w, I2, J2, I4, J4, hv, hk0, hw, hm, h38, hI4, hx⟩
  · obtain ⟨z, rfl⟩ := hv
    have ho2 : J4 292 0 = z.toInt64 := by rw [← ho]; exact ku_same
    try dsimp only at hw
    try dsimp only at hm
    have th := m_thrown (I := I4) (J := J4) (lay_md hL0)
    rw [h38] at th
    simp only [s254_160, s254_161, s254_162, s254_164, s254_165, s254_166, s254_167, s254_168, s254_171, s254_173, s254_174, s254_175, s254_177, s254_178, s254_179, s254_180, s254_183, s254_185, s254_186, s254_189, s254_191, s254_194, s254_195, s254_196, s254_198, s254_201, s254_202, s254_203, s254_204, s254_206, s254_207, s254_208, s254_211, s254_212, s254_213, s254_1748, s254_1751, hf_bd_v, hf_bd_n, hf_iv_i, hf_iv_l, hf_iv_a, hf_iv_n, hf_iv_2, z_lgl, z_lgg, z_lge, z_lgle, z_lgz, Option.getD_some, Option.isSome_some, ↓reduceIte, not_true_eq_false, not_false_eq_true, Option.toList_some, Option.toList_none, List.cons_append, List.nil_append, Nat.reduceAdd, Nat.add_assoc, ku_ne, ku_same, ne_eq, Nat.reduceEqDiff, reduceCtorEq, Nat.add_eq_left, Nat.left_eq_add, Nat.reduceEqDiff, q10, q_ne, true_or, or_true, in1, cl1, ad1, ad2, ad3, ad4, ad5, hk1, hk2, km, kc, hx0, hx, hw, hm, th, ho2, z_o1, z_o2]
    exact hK σ2 g I4 J4 _ _ _ hI4 ⟨Nat.le_succ _, by omega⟩
  · obtain ⟨z, rfl⟩ := hv
    try dsimp only at hw
    try dsimp only at hm
    have th := m_thrown (I := I4) (J := J4) (lay_md hL0.th)
    rw [h38] at th
    simp only [s254_160, s254_161, s254_162, s254_164, s254_165, s254_166, s254_167, s254_168, s254_171, s254_173, s254_174, s254_175, s254_177, s254_178, s254_179, s254_180, s254_183, s254_185, s254_186, s254_189, s254_191, s254_194, s254_195, s254_196, s254_198, s254_201, s254_202, s254_203, s254_204, s254_206, s254_207, s254_208, s254_211, s254_212, s254_213, s254_1748, s254_1751, hf_bd_v, hf_bd_n, hf_iv_i, hf_iv_l, hf_iv_a, hf_iv_n, hf_iv_2, z_lgl, z_lgg, z_lge, z_lgle, z_lgz, Option.getD_some, Option.isSome_some, ↓reduceIte, not_true_eq_false, not_false_eq_true, Option.toList_some, Option.toList_none, List.cons_append, List.nil_append, Nat.reduceAdd, Nat.add_assoc, ku_ne, ku_same, ne_eq, Nat.reduceEqDiff, reduceCtorEq, Nat.add_eq_left, Nat.left_eq_add, Nat.reduceEqDiff, q10, q_ne, true_or, or_true, in1, cl1, ad1, ad2, ad3, ad4, ad5, k_th, hk1, hk2, km, kc, hx0, hx, hw, hm, th, hk0]
    exact hK σ2 (hf_th g) I4 J4 _ _ _ hI4 ⟨Nat.le_refl _, Nat.le_refl _⟩
theorem lc_ripple (hI : LI L xs σ g I J) (ht : 5 * t + 5 ≤ L) (hL : L ≤ 2560) (hK : Cont L xs g t P) : P (hf_rn 254 216 [some (.ref 1000001), some (.ref 0), some (.ref 270), some (.ref 292), some (.int (nI (5 * t))), l5, l6, l7] [] g I J) := by
  obtain ⟨ad1, ad2, ad3, ad4, ad5⟩ := ads t
  obtain ⟨in1, cl1⟩ := ins (a := 5 * t + 1) (L := L) (by omega) hL
  obtain ⟨in2, cl2⟩ := ins (a := 5 * t + 2) (L := L) (by omega) hL
  obtain ⟨in3, cl3⟩ := ins (a := 5 * t + 3) (L := L) (by omega) hL
  obtain ⟨in4, cl4⟩ := ins (a := 5 * t + 4) (L := L) (by omega) hL
  have hk1 : hf_k g 1000001 = (6, L) := hI.2.2.2.2.2.1
  have hk2 : hf_k g 292 = (3, 1) := hI.2.2.2.2.2.2.1
  have hx0 : I 1000001 = xs := hI.2.2.2.2.2.2.2
  have hL0 := hI.2.1
  have kc : hf_k g 0 = (0, 9) := hx_k (lay_hx hL0)
  have km : hf_k g 270 = (0, 10) := (lay_md hL0).1
  rcases lwf_ripple (kx := xs (5 * t + 1)) (ky := xs (5 * t + 2)) (ki := xs (5 * t + 3)) (kj := xs (5 * t + 4)) hI with ⟨σ2, v, I2, J2, I4, J4, hv, hw, hm, ho, h38, hI4, hx⟩ | ⟨σ2, k, w, I2, J2, I4, J4, hv, hk0, hw, hm, h38, hI4, hx⟩
  · subst hv
    try dsimp only at hw
    try dsimp only at hm
    have th := m_thrown (I := I4) (J := J4) (lay_md hL0)
    rw [h38] at th
    simp only [s254_216, s254_217, s254_218, s254_220, s254_221, s254_222, s254_223, s254_224, s254_226, s254_227, s254_228, s254_229, s254_230, s254_232, s254_233, s254_234, s254_235, s254_236, s254_238, s254_239, s254_240, s254_241, s254_244, s254_246, s254_247, s254_248, s254_250, s254_251, s254_252, s254_253, s254_254, s254_256, s254_257, s254_258, s254_259, s254_260, s254_262, s254_263, s254_264, s254_265, s254_266, s254_268, s254_269, s254_270, s254_271, s254_274, s254_275, s254_278, s254_280, s254_283, s254_284, s254_285, s254_1748, s254_1751, hf_bd_v, hf_bd_n, hf_iv_i, hf_iv_l, hf_iv_a, hf_iv_n, hf_iv_2, z_lgl, z_lgg, z_lge, z_lgle, z_lgz, Option.getD_some, Option.isSome_some, ↓reduceIte, not_true_eq_false, not_false_eq_true, Option.toList_some, Option.toList_none, List.cons_append, List.nil_append, Nat.reduceAdd, Nat.add_assoc, ku_ne, ku_same, ne_eq, Nat.reduceEqDiff, reduceCtorEq, Nat.add_eq_left, Nat.left_eq_add, Nat.reduceEqDiff, q10, q_ne, true_or, or_true, in1, cl1, in2, cl2, in3, cl3, in4, cl4, ad1, ad2, ad3, ad4, ad5, hk1, hk2, km, kc, hx0, hx, hw, hm, th]
    exact hK σ2 g I4 J4 _ _ _ hI4 ⟨Nat.le_succ _, by omega⟩
  · subst hv
    try dsimp only at hw
    try dsimp only at hm
    have th := m_thrown (I := I4) (J := J4) (lay_md hL0.th)
    rw [h38] at th
    simp only [s254_216, s254_217, s254_218, s254_220, s254_221, s254_222, s254_223, s254_224, s254_226, s254_227, s254_228, s254_229, s254_230, s254_232, s254_233, s254_234, s254_235, s254_236, s254_238, s254_239, s254_240, s254_241, s254_244, s254_246, s254_247, s254_248, s254_250, s254_251, s254_252, s254_253, s254_254, s254_256, s254_257, s254_258, s254_259, s254_260, s254_262, s254_263, s254_264, s254_265, s254_266, s254_268, s254_269, s254_270, s254_271, s254_274, s254_275, s254_278, s254_280, s254_283, s254_284, s254_285, s254_1748, s254_1751, hf_bd_v, hf_bd_n, hf_iv_i, hf_iv_l, hf_iv_a, hf_iv_n, hf_iv_2, z_lgl, z_lgg, z_lge, z_lgle, z_lgz, Option.getD_some, Option.isSome_some, ↓reduceIte, not_true_eq_false, not_false_eq_true, Option.toList_some, Option.toList_none, List.cons_append, List.nil_append, Nat.reduceAdd, Nat.add_assoc, ku_ne, ku_same, ne_eq, Nat.reduceEqDiff, reduceCtorEq, Nat.add_eq_left, Nat.left_eq_add, Nat.reduceEqDiff, q10, q_ne, true_or, or_true, in1, cl1, in2, cl2, in3, cl3, in4, cl4, ad1, ad2, ad3, ad4, ad5, k_th, hk1, hk2, km, kc, hx0, hx, hw, hm, th, hk0]
    exact hK σ2 (hf_th g) I4 J4 _ _ _ hI4 ⟨Nat.le_refl _, Nat.le_refl _⟩
theorem lc_draw (hI : LI L xs σ g I J) (ht : 5 * t + 5 ≤ L) (hL : L ≤ 2560) (hK : Cont L xs g t P) : P (hf_rn 254 288 [some (.ref 1000001), some (.ref 0), some (.ref 270), some (.ref 292), some (.int (nI (5 * t))), l5, l6, l7] [] g I J) := by
  obtain ⟨ad1, ad2, ad3, ad4, ad5⟩ := ads t
  obtain ⟨in1, cl1⟩ := ins (a := 5 * t + 1) (L := L) (by omega) hL
  obtain ⟨in2, cl2⟩ := ins (a := 5 * t + 2) (L := L) (by omega) hL
  have hk1 : hf_k g 1000001 = (6, L) := hI.2.2.2.2.2.1
  have hk2 : hf_k g 292 = (3, 1) := hI.2.2.2.2.2.2.1
  have hx0 : I 1000001 = xs := hI.2.2.2.2.2.2.2
  have hL0 := hI.2.1
  have kc : hf_k g 0 = (0, 9) := hx_k (lay_hx hL0)
  have km : hf_k g 270 = (0, 10) := (lay_md hL0).1
  rcases lwf_draw (i := xs (5 * t + 1)) (j := xs (5 * t + 2)) hI with ⟨σ2, v, I2, J2, I4, J4, hv, hw, hm, ho, h38, hI4, hx⟩ | ⟨σ2, k, w, I2, J2, I4, J4, hv, hk0, hw, hm, h38, hI4, hx⟩
  · obtain ⟨z, rfl⟩ := hv
    have ho2 : J4 292 0 = z.toInt64 := by rw [← ho]; exact ku_same
    try dsimp only at hw
    try dsimp only at hm
    have th := m_thrown (I := I4) (J := J4) (lay_md hL0)
    rw [h38] at th
    simp only [s254_288, s254_289, s254_290, s254_292, s254_293, s254_294, s254_295, s254_296, s254_298, s254_299, s254_300, s254_301, s254_302, s254_305, s254_307, s254_308, s254_309, s254_311, s254_312, s254_313, s254_314, s254_315, s254_317, s254_318, s254_319, s254_320, s254_323, s254_325, s254_326, s254_329, s254_331, s254_334, s254_335, s254_336, s254_338, s254_341, s254_342, s254_343, s254_344, s254_346, s254_347, s254_348, s254_351, s254_352, s254_353, s254_1748, s254_1751, hf_bd_v, hf_bd_n, hf_iv_i, hf_iv_l, hf_iv_a, hf_iv_n, hf_iv_2, z_lgl, z_lgg, z_lge, z_lgle, z_lgz, Option.getD_some, Option.isSome_some, ↓reduceIte, not_true_eq_false, not_false_eq_true, Option.toList_some, Option.toList_none, List.cons_append, List.nil_append, Nat.reduceAdd, Nat.add_assoc, ku_ne, ku_same, ne_eq, Nat.reduceEqDiff, reduceCtorEq, Nat.add_eq_left, Nat.left_eq_add, Nat.reduceEqDiff, q10, q_ne, true_or, or_true, in1, cl1, in2, cl2, ad1, ad2, ad3, ad4, ad5, hk1, hk2, km, kc, hx0, hx, hw, hm, th, ho2, z_o1, z_o2]
    exact hK σ2 g I4 J4 _ _ _ hI4 ⟨Nat.le_succ _, by omega⟩
  · obtain ⟨z, rfl⟩ := hv
    try dsimp only at hw
    try dsimp only at hm
    have th := m_thrown (I := I4) (J := J4) (lay_md hL0.th)
    rw [h38] at th
    simp only [s254_288, s254_289, s254_290, s254_292, s254_293, s254_294, s254_295, s254_296, s254_298, s254_299, s254_300, s254_301, s254_302, s254_305, s254_307, s254_308, s254_309, s254_311, s254_312, s254_313, s254_314, s254_315, s254_317, s254_318, s254_319, s254_320, s254_323, s254_325, s254_326, s254_329, s254_331, s254_334, s254_335, s254_336, s254_338, s254_341, s254_342, s254_343, s254_344, s254_346, s254_347, s254_348, s254_351, s254_352, s254_353, s254_1748, s254_1751, hf_bd_v, hf_bd_n, hf_iv_i, hf_iv_l, hf_iv_a, hf_iv_n, hf_iv_2, z_lgl, z_lgg, z_lge, z_lgle, z_lgz, Option.getD_some, Option.isSome_some, ↓reduceIte, not_true_eq_false, not_false_eq_true, Option.toList_some, Option.toList_none, List.cons_append, List.nil_append, Nat.reduceAdd, Nat.add_assoc, ku_ne, ku_same, ne_eq, Nat.reduceEqDiff, reduceCtorEq, Nat.add_eq_left, Nat.left_eq_add, Nat.reduceEqDiff, q10, q_ne, true_or, or_true, in1, cl1, in2, cl2, ad1, ad2, ad3, ad4, ad5, k_th, hk1, hk2, km, kc, hx0, hx, hw, hm, th, hk0]
    exact hK σ2 (hf_th g) I4 J4 _ _ _ hI4 ⟨Nat.le_refl _, Nat.le_refl _⟩
theorem lc_grain (hI : LI L xs σ g I J) (ht : 5 * t + 5 ≤ L) (hL : L ≤ 2560) (hK : Cont L xs g t P) : P (hf_rn 254 356 [some (.ref 1000001), some (.ref 0), some (.ref 270), some (.ref 292), some (.int (nI (5 * t))), l5, l6, l7] [] g I J) := by
  obtain ⟨ad1, ad2, ad3, ad4, ad5⟩ := ads t
  obtain ⟨in1, cl1⟩ := ins (a := 5 * t + 1) (L := L) (by omega) hL
  obtain ⟨in2, cl2⟩ := ins (a := 5 * t + 2) (L := L) (by omega) hL
  obtain ⟨in3, cl3⟩ := ins (a := 5 * t + 3) (L := L) (by omega) hL
  have hk1 : hf_k g 1000001 = (6, L) := hI.2.2.2.2.2.1
  have hk2 : hf_k g 292 = (3, 1) := hI.2.2.2.2.2.2.1
  have hx0 : I 1000001 = xs := hI.2.2.2.2.2.2.2
  have hL0 := hI.2.1
  have kc : hf_k g 0 = (0, 9) := hx_k (lay_hx hL0)
  have km : hf_k g 270 = (0, 10) := (lay_md hL0).1
  rcases lwf_grain (i := xs (5 * t + 1)) (j := xs (5 * t + 2)) (x := xs (5 * t + 3)) hI with ⟨σ2, v, I2, J2, I4, J4, hv, hw, hm, ho, h38, hI4, hx⟩ | ⟨σ2, k, w, I2, J2, I4, J4, hv, hk0, hw, hm, h38, hI4, hx⟩
  · obtain ⟨z, rfl⟩ := hv
    have ho2 : J4 292 0 = z := by rw [← ho]; exact ku_same
    try dsimp only at hw
    try dsimp only at hm
    have th := m_thrown (I := I4) (J := J4) (lay_md hL0)
    rw [h38] at th
    simp only [s254_356, s254_357, s254_358, s254_360, s254_361, s254_362, s254_363, s254_364, s254_366, s254_367, s254_368, s254_369, s254_370, s254_372, s254_373, s254_374, s254_375, s254_376, s254_379, s254_381, s254_382, s254_383, s254_385, s254_386, s254_387, s254_388, s254_389, s254_391, s254_392, s254_393, s254_394, s254_395, s254_397, s254_398, s254_399, s254_400, s254_403, s254_405, s254_406, s254_409, s254_411, s254_414, s254_415, s254_416, s254_418, s254_421, s254_422, s254_423, s254_424, s254_426, s254_427, s254_430, s254_431, s254_432, s254_1748, s254_1751, hf_bd_v, hf_bd_n, hf_iv_i, hf_iv_l, hf_iv_a, hf_iv_n, hf_iv_2, z_lgl, z_lgg, z_lge, z_lgle, z_lgz, Option.getD_some, Option.isSome_some, ↓reduceIte, not_true_eq_false, not_false_eq_true, Option.toList_some, Option.toList_none, List.cons_append, List.nil_append, Nat.reduceAdd, Nat.add_assoc, ku_ne, ku_same, ne_eq, Nat.reduceEqDiff, reduceCtorEq, Nat.add_eq_left, Nat.left_eq_add, Nat.reduceEqDiff, q10, q_ne, true_or, or_true, in1, cl1, in2, cl2, in3, cl3, ad1, ad2, ad3, ad4, ad5, hk1, hk2, km, kc, hx0, hx, hw, hm, th, ho2, z_o1, z_o2]
    exact hK σ2 g I4 J4 _ _ _ hI4 ⟨Nat.le_succ _, by omega⟩
  · obtain ⟨z, rfl⟩ := hv
    try dsimp only at hw
    try dsimp only at hm
    have th := m_thrown (I := I4) (J := J4) (lay_md hL0.th)
    rw [h38] at th
    simp only [s254_356, s254_357, s254_358, s254_360, s254_361, s254_362, s254_363, s254_364, s254_366, s254_367, s254_368, s254_369, s254_370, s254_372, s254_373, s254_374, s254_375, s254_376, s254_379, s254_381, s254_382, s254_383, s254_385, s254_386, s254_387, s254_388, s254_389, s254_391, s254_392, s254_393, s254_394, s254_395, s254_397, s254_398, s254_399, s254_400, s254_403, s254_405, s254_406, s254_409, s254_411, s254_414, s254_415, s254_416, s254_418, s254_421, s254_422, s254_423, s254_424, s254_426, s254_427, s254_430, s254_431, s254_432, s254_1748, s254_1751, hf_bd_v, hf_bd_n, hf_iv_i, hf_iv_l, hf_iv_a, hf_iv_n, hf_iv_2, z_lgl, z_lgg, z_lge, z_lgle, z_lgz, Option.getD_some, Option.isSome_some, ↓reduceIte, not_true_eq_false, not_false_eq_true, Option.toList_some, Option.toList_none, List.cons_append, List.nil_append, Nat.reduceAdd, Nat.add_assoc, ku_ne, ku_same, ne_eq, Nat.reduceEqDiff, reduceCtorEq, Nat.add_eq_left, Nat.left_eq_add, Nat.reduceEqDiff, q10, q_ne, true_or, or_true, in1, cl1, in2, cl2, in3, cl3, ad1, ad2, ad3, ad4, ad5, k_th, hk1, hk2, km, kc, hx0, hx, hw, hm, th, hk0]
    exact hK σ2 (hf_th g) I4 J4 _ _ _ hI4 ⟨Nat.le_refl _, Nat.le_refl _⟩
theorem lc_pull (hI : LI L xs σ g I J) (ht : 5 * t + 5 ≤ L) (hL : L ≤ 2560) (hK : Cont L xs g t P) : P (hf_rn 254 435 [some (.ref 1000001), some (.ref 0), some (.ref 270), some (.ref 292), some (.int (nI (5 * t))), l5, l6, l7] [] g I J) := by
  obtain ⟨ad1, ad2, ad3, ad4, ad5⟩ := ads t
  obtain ⟨in1, cl1⟩ := ins (a := 5 * t + 1) (L := L) (by omega) hL
  obtain ⟨in2, cl2⟩ := ins (a := 5 * t + 2) (L := L) (by omega) hL
  have hk1 : hf_k g 1000001 = (6, L) := hI.2.2.2.2.2.1
  have hk2 : hf_k g 292 = (3, 1) := hI.2.2.2.2.2.2.1
  have hx0 : I 1000001 = xs := hI.2.2.2.2.2.2.2
  have hL0 := hI.2.1
  have kc : hf_k g 0 = (0, 9) := hx_k (lay_hx hL0)
  have km : hf_k g 270 = (0, 10) := (lay_md hL0).1
  rcases lwf_pull (i := xs (5 * t + 1)) (j := xs (5 * t + 2)) hI with ⟨σ2, v, I2, J2, I4, J4, hv, hw, hm, ho, h38, hI4, hx⟩ | ⟨σ2, k, w, I2, J2, I4, J4, hv, hk0, hw, hm, h38, hI4, hx⟩
  · subst hv
    try dsimp only at hw
    try dsimp only at hm
    have th := m_thrown (I := I4) (J := J4) (lay_md hL0)
    rw [h38] at th
    simp only [s254_435, s254_436, s254_437, s254_439, s254_440, s254_441, s254_442, s254_443, s254_445, s254_446, s254_447, s254_448, s254_451, s254_453, s254_454, s254_455, s254_457, s254_458, s254_459, s254_460, s254_461, s254_463, s254_464, s254_465, s254_466, s254_469, s254_470, s254_473, s254_475, s254_478, s254_479, s254_480, s254_1748, s254_1751, hf_bd_v, hf_bd_n, hf_iv_i, hf_iv_l, hf_iv_a, hf_iv_n, hf_iv_2, z_lgl, z_lgg, z_lge, z_lgle, z_lgz, Option.getD_some, Option.isSome_some, ↓reduceIte, not_true_eq_false, not_false_eq_true, Option.toList_some, Option.toList_none, List.cons_append, List.nil_append, Nat.reduceAdd, Nat.add_assoc, ku_ne, ku_same, ne_eq, Nat.reduceEqDiff, reduceCtorEq, Nat.add_eq_left, Nat.left_eq_add, Nat.reduceEqDiff, q10, q_ne, true_or, or_true, in1, cl1, in2, cl2, ad1, ad2, ad3, ad4, ad5, hk1, hk2, km, kc, hx0, hx, hw, hm, th]
    exact hK σ2 g I4 J4 _ _ _ hI4 ⟨Nat.le_succ _, by omega⟩
  · subst hv
    try dsimp only at hw
    try dsimp only at hm
    have th := m_thrown (I := I4) (J := J4) (lay_md hL0.th)
    rw [h38] at th
    simp only [s254_435, s254_436, s254_437, s254_439, s254_440, s254_441, s254_442, s254_443, s254_445, s254_446, s254_447, s254_448, s254_451, s254_453, s254_454, s254_455, s254_457, s254_458, s254_459, s254_460, s254_461, s254_463, s254_464, s254_465, s254_466, s254_469, s254_470, s254_473, s254_475, s254_478, s254_479, s254_480, s254_1748, s254_1751, hf_bd_v, hf_bd_n, hf_iv_i, hf_iv_l, hf_iv_a, hf_iv_n, hf_iv_2, z_lgl, z_lgg, z_lge, z_lgle, z_lgz, Option.getD_some, Option.isSome_some, ↓reduceIte, not_true_eq_false, not_false_eq_true, Option.toList_some, Option.toList_none, List.cons_append, List.nil_append, Nat.reduceAdd, Nat.add_assoc, ku_ne, ku_same, ne_eq, Nat.reduceEqDiff, reduceCtorEq, Nat.add_eq_left, Nat.left_eq_add, Nat.reduceEqDiff, q10, q_ne, true_or, or_true, in1, cl1, in2, cl2, ad1, ad2, ad3, ad4, ad5, k_th, hk1, hk2, km, kc, hx0, hx, hw, hm, th, hk0]
    exact hK σ2 (hf_th g) I4 J4 _ _ _ hI4 ⟨Nat.le_refl _, Nat.le_refl _⟩
theorem lc_step (hI : LI L xs σ g I J) (ht : 5 * t + 5 ≤ L) (hL : L ≤ 2560) (hK : Cont L xs g t P) : P (hf_rn 254 594 [some (.ref 1000001), some (.ref 0), some (.ref 270), some (.ref 292), some (.int (nI (5 * t))), l5, l6, l7] [] g I J) := by
  obtain ⟨ad1, ad2, ad3, ad4, ad5⟩ := ads t
  obtain ⟨in1, cl1⟩ := ins (a := 5 * t + 1) (L := L) (by omega) hL
  have hk1 : hf_k g 1000001 = (6, L) := hI.2.2.2.2.2.1
  have hk2 : hf_k g 292 = (3, 1) := hI.2.2.2.2.2.2.1
  have hx0 : I 1000001 = xs := hI.2.2.2.2.2.2.2
  have hL0 := hI.2.1
  have kc : hf_k g 0 = (0, 9) := hx_k (lay_hx hL0)
  have km : hf_k g 270 = (0, 10) := (lay_md hL0).1
  rcases lwf_step (i := xs (5 * t + 1)) hI with ⟨σ2, v, I2, J2, I4, J4, hv, hw, hm, ho, h38, hI4, hx⟩ | ⟨σ2, k, w, I2, J2, I4, J4, hv, hk0, hw, hm, h38, hI4, hx⟩
  · obtain ⟨z, rfl⟩ := hv
    have ho2 : J4 292 0 = z.toInt64 := by rw [← ho]; exact ku_same
    try dsimp only at hw
    try dsimp only at hm
    have th := m_thrown (I := I4) (J := J4) (lay_md hL0)
    rw [h38] at th
    simp only [s254_594, s254_595, s254_596, s254_598, s254_599, s254_600, s254_601, s254_602, s254_605, s254_607, s254_608, s254_609, s254_611, s254_612, s254_613, s254_614, s254_617, s254_619, s254_620, s254_623, s254_625, s254_628, s254_629, s254_630, s254_632, s254_635, s254_636, s254_637, s254_638, s254_640, s254_641, s254_642, s254_645, s254_646, s254_647, s254_1748, s254_1751, hf_bd_v, hf_bd_n, hf_iv_i, hf_iv_l, hf_iv_a, hf_iv_n, hf_iv_2, z_lgl, z_lgg, z_lge, z_lgle, z_lgz, Option.getD_some, Option.isSome_some, ↓reduceIte, not_true_eq_false, not_false_eq_true, Option.toList_some, Option.toList_none, List.cons_append, List.nil_append, Nat.reduceAdd, Nat.add_assoc, ku_ne, ku_same, ne_eq, Nat.reduceEqDiff, reduceCtorEq, Nat.add_eq_left, Nat.left_eq_add, Nat.reduceEqDiff, q10, q_ne, true_or, or_true, in1, cl1, ad1, ad2, ad3, ad4, ad5, hk1, hk2, km, kc, hx0, hx, hw, hm, th, ho2, z_o1, z_o2]
    exact hK σ2 g I4 J4 _ _ _ hI4 ⟨Nat.le_succ _, by omega⟩
  · obtain ⟨z, rfl⟩ := hv
    try dsimp only at hw
    try dsimp only at hm
    have th := m_thrown (I := I4) (J := J4) (lay_md hL0.th)
    rw [h38] at th
    simp only [s254_594, s254_595, s254_596, s254_598, s254_599, s254_600, s254_601, s254_602, s254_605, s254_607, s254_608, s254_609, s254_611, s254_612, s254_613, s254_614, s254_617, s254_619, s254_620, s254_623, s254_625, s254_628, s254_629, s254_630, s254_632, s254_635, s254_636, s254_637, s254_638, s254_640, s254_641, s254_642, s254_645, s254_646, s254_647, s254_1748, s254_1751, hf_bd_v, hf_bd_n, hf_iv_i, hf_iv_l, hf_iv_a, hf_iv_n, hf_iv_2, z_lgl, z_lgg, z_lge, z_lgle, z_lgz, Option.getD_some, Option.isSome_some, ↓reduceIte, not_true_eq_false, not_false_eq_true, Option.toList_some, Option.toList_none, List.cons_append, List.nil_append, Nat.reduceAdd, Nat.add_assoc, ku_ne, ku_same, ne_eq, Nat.reduceEqDiff, reduceCtorEq, Nat.add_eq_left, Nat.left_eq_add, Nat.reduceEqDiff, q10, q_ne, true_or, or_true, in1, cl1, ad1, ad2, ad3, ad4, ad5, k_th, hk1, hk2, km, kc, hx0, hx, hw, hm, th, hk0]
    exact hK σ2 (hf_th g) I4 J4 _ _ _ hI4 ⟨Nat.le_refl _, Nat.le_refl _⟩
theorem lc_link (hI : LI L xs σ g I J) (ht : 5 * t + 5 ≤ L) (hL : L ≤ 2560) (hK : Cont L xs g t P) : P (hf_rn 254 692 [some (.ref 1000001), some (.ref 0), some (.ref 270), some (.ref 292), some (.int (nI (5 * t))), l5, l6, l7] [] g I J) := by
  obtain ⟨ad1, ad2, ad3, ad4, ad5⟩ := ads t
  obtain ⟨in1, cl1⟩ := ins (a := 5 * t + 1) (L := L) (by omega) hL
  obtain ⟨in2, cl2⟩ := ins (a := 5 * t + 2) (L := L) (by omega) hL
  have hk1 : hf_k g 1000001 = (6, L) := hI.2.2.2.2.2.1
  have hk2 : hf_k g 292 = (3, 1) := hI.2.2.2.2.2.2.1
  have hx0 : I 1000001 = xs := hI.2.2.2.2.2.2.2
  have hL0 := hI.2.1
  have kc : hf_k g 0 = (0, 9) := hx_k (lay_hx hL0)
  have km : hf_k g 270 = (0, 10) := (lay_md hL0).1
  rcases lwf_link (i := xs (5 * t + 1)) (j := xs (5 * t + 2)) hI with ⟨σ2, v, I2, J2, I4, J4, hv, hw, hm, ho, h38, hI4, hx⟩ | ⟨σ2, k, w, I2, J2, I4, J4, hv, hk0, hw, hm, h38, hI4, hx⟩
  · subst hv
    try dsimp only at hw
    try dsimp only at hm
    have th := m_thrown (I := I4) (J := J4) (lay_md hL0)
    rw [h38] at th
    simp only [s254_692, s254_693, s254_694, s254_696, s254_697, s254_698, s254_699, s254_700, s254_702, s254_703, s254_704, s254_705, s254_708, s254_710, s254_711, s254_712, s254_714, s254_715, s254_716, s254_717, s254_718, s254_720, s254_721, s254_722, s254_723, s254_726, s254_727, s254_730, s254_732, s254_735, s254_736, s254_737, s254_1748, s254_1751, hf_bd_v, hf_bd_n, hf_iv_i, hf_iv_l, hf_iv_a, hf_iv_n, hf_iv_2, z_lgl, z_lgg, z_lge, z_lgle, z_lgz, Option.getD_some, Option.isSome_some, ↓reduceIte, not_true_eq_false, not_false_eq_true, Option.toList_some, Option.toList_none, List.cons_append, List.nil_append, Nat.reduceAdd, Nat.add_assoc, ku_ne, ku_same, ne_eq, Nat.reduceEqDiff, reduceCtorEq, Nat.add_eq_left, Nat.left_eq_add, Nat.reduceEqDiff, q10, q_ne, true_or, or_true, in1, cl1, in2, cl2, ad1, ad2, ad3, ad4, ad5, hk1, hk2, km, kc, hx0, hx, hw, hm, th]
    exact hK σ2 g I4 J4 _ _ _ hI4 ⟨Nat.le_succ _, by omega⟩
  · subst hv
    try dsimp only at hw
    try dsimp only at hm
    have th := m_thrown (I := I4) (J := J4) (lay_md hL0.th)
    rw [h38] at th
    simp only [s254_692, s254_693, s254_694, s254_696, s254_697, s254_698, s254_699, s254_700, s254_702, s254_703, s254_704, s254_705, s254_708, s254_710, s254_711, s254_712, s254_714, s254_715, s254_716, s254_717, s254_718, s254_720, s254_721, s254_722, s254_723, s254_726, s254_727, s254_730, s254_732, s254_735, s254_736, s254_737, s254_1748, s254_1751, hf_bd_v, hf_bd_n, hf_iv_i, hf_iv_l, hf_iv_a, hf_iv_n, hf_iv_2, z_lgl, z_lgg, z_lge, z_lgle, z_lgz, Option.getD_some, Option.isSome_some, ↓reduceIte, not_true_eq_false, not_false_eq_true, Option.toList_some, Option.toList_none, List.cons_append, List.nil_append, Nat.reduceAdd, Nat.add_assoc, ku_ne, ku_same, ne_eq, Nat.reduceEqDiff, reduceCtorEq, Nat.add_eq_left, Nat.left_eq_add, Nat.reduceEqDiff, q10, q_ne, true_or, or_true, in1, cl1, in2, cl2, ad1, ad2, ad3, ad4, ad5, k_th, hk1, hk2, km, kc, hx0, hx, hw, hm, th, hk0]
    exact hK σ2 (hf_th g) I4 J4 _ _ _ hI4 ⟨Nat.le_refl _, Nat.le_refl _⟩
theorem lc_halos (hI : LI L xs σ g I J) (ht : 5 * t + 5 ≤ L) (hL : L ≤ 2560) (hK : Cont L xs g t P) : P (hf_rn 254 740 [some (.ref 1000001), some (.ref 0), some (.ref 270), some (.ref 292), some (.int (nI (5 * t))), l5, l6, l7] [] g I J) := by
  obtain ⟨ad1, ad2, ad3, ad4, ad5⟩ := ads t
  obtain ⟨in1, cl1⟩ := ins (a := 5 * t + 1) (L := L) (by omega) hL
  have hk1 : hf_k g 1000001 = (6, L) := hI.2.2.2.2.2.1
  have hk2 : hf_k g 292 = (3, 1) := hI.2.2.2.2.2.2.1
  have hx0 : I 1000001 = xs := hI.2.2.2.2.2.2.2
  have hL0 := hI.2.1
  have kc : hf_k g 0 = (0, 9) := hx_k (lay_hx hL0)
  have km : hf_k g 270 = (0, 10) := (lay_md hL0).1
  rcases lwf_halos (i := xs (5 * t + 1)) hI with ⟨σ2, v, I2, J2, I4, J4, hv, hw, hm, ho, h38, hI4, hx⟩ | ⟨σ2, k, w, I2, J2, I4, J4, hv, hk0, hw, hm, h38, hI4, hx⟩
  · obtain ⟨z, rfl⟩ := hv
    have ho2 : J4 292 0 = z.toInt64 := by rw [← ho]; exact ku_same
    try dsimp only at hw
    try dsimp only at hm
    have th := m_thrown (I := I4) (J := J4) (lay_md hL0)
    rw [h38] at th
    simp only [s254_740, s254_741, s254_742, s254_744, s254_745, s254_746, s254_747, s254_748, s254_751, s254_753, s254_754, s254_755, s254_757, s254_758, s254_759, s254_760, s254_763, s254_765, s254_766, s254_769, s254_771, s254_774, s254_775, s254_776, s254_778, s254_781, s254_782, s254_783, s254_784, s254_786, s254_787, s254_788, s254_791, s254_792, s254_793, s254_1748, s254_1751, hf_bd_v, hf_bd_n, hf_iv_i, hf_iv_l, hf_iv_a, hf_iv_n, hf_iv_2, z_lgl, z_lgg, z_lge, z_lgle, z_lgz, Option.getD_some, Option.isSome_some, ↓reduceIte, not_true_eq_false, not_false_eq_true, Option.toList_some, Option.toList_none, List.cons_append, List.nil_append, Nat.reduceAdd, Nat.add_assoc, ku_ne, ku_same, ne_eq, Nat.reduceEqDiff, reduceCtorEq, Nat.add_eq_left, Nat.left_eq_add, Nat.reduceEqDiff, q10, q_ne, true_or, or_true, in1, cl1, ad1, ad2, ad3, ad4, ad5, hk1, hk2, km, kc, hx0, hx, hw, hm, th, ho2, z_o1, z_o2]
    exact hK σ2 g I4 J4 _ _ _ hI4 ⟨Nat.le_succ _, by omega⟩
  · obtain ⟨z, rfl⟩ := hv
    try dsimp only at hw
    try dsimp only at hm
    have th := m_thrown (I := I4) (J := J4) (lay_md hL0.th)
    rw [h38] at th
    simp only [s254_740, s254_741, s254_742, s254_744, s254_745, s254_746, s254_747, s254_748, s254_751, s254_753, s254_754, s254_755, s254_757, s254_758, s254_759, s254_760, s254_763, s254_765, s254_766, s254_769, s254_771, s254_774, s254_775, s254_776, s254_778, s254_781, s254_782, s254_783, s254_784, s254_786, s254_787, s254_788, s254_791, s254_792, s254_793, s254_1748, s254_1751, hf_bd_v, hf_bd_n, hf_iv_i, hf_iv_l, hf_iv_a, hf_iv_n, hf_iv_2, z_lgl, z_lgg, z_lge, z_lgle, z_lgz, Option.getD_some, Option.isSome_some, ↓reduceIte, not_true_eq_false, not_false_eq_true, Option.toList_some, Option.toList_none, List.cons_append, List.nil_append, Nat.reduceAdd, Nat.add_assoc, ku_ne, ku_same, ne_eq, Nat.reduceEqDiff, reduceCtorEq, Nat.add_eq_left, Nat.left_eq_add, Nat.reduceEqDiff, q10, q_ne, true_or, or_true, in1, cl1, ad1, ad2, ad3, ad4, ad5, k_th, hk1, hk2, km, kc, hx0, hx, hw, hm, th, hk0]
    exact hK σ2 (hf_th g) I4 J4 _ _ _ hI4 ⟨Nat.le_refl _, Nat.le_refl _⟩
theorem lc_halosAnew (hI : LI L xs σ g I J) (ht : 5 * t + 5 ≤ L) (hL : L ≤ 2560) (hK : Cont L xs g t P) : P (hf_rn 254 796 [some (.ref 1000001), some (.ref 0), some (.ref 270), some (.ref 292), some (.int (nI (5 * t))), l5, l6, l7] [] g I J) := by
  obtain ⟨ad1, ad2, ad3, ad4, ad5⟩ := ads t
  obtain ⟨in1, cl1⟩ := ins (a := 5 * t + 1) (L := L) (by omega) hL
  have hk1 : hf_k g 1000001 = (6, L) := hI.2.2.2.2.2.1
  have hk2 : hf_k g 292 = (3, 1) := hI.2.2.2.2.2.2.1
  have hx0 : I 1000001 = xs := hI.2.2.2.2.2.2.2
  have hL0 := hI.2.1
  have kc : hf_k g 0 = (0, 9) := hx_k (lay_hx hL0)
  have km : hf_k g 270 = (0, 10) := (lay_md hL0).1
  rcases lwf_halosAnew (i := xs (5 * t + 1)) hI with ⟨σ2, v, I2, J2, I4, J4, hv, hw, hm, ho, h38, hI4, hx⟩ | ⟨σ2, k, w, I2, J2, I4, J4, hv, hk0, hw, hm, h38, hI4, hx⟩
  · obtain ⟨z, rfl⟩ := hv
    have ho2 : J4 292 0 = z.toInt64 := by rw [← ho]; exact ku_same
    try dsimp only at hw
    try dsimp only at hm
    have th := m_thrown (I := I4) (J := J4) (lay_md hL0)
    rw [h38] at th
    simp only [s254_796, s254_797, s254_798, s254_800, s254_801, s254_802, s254_803, s254_804, s254_807, s254_809, s254_810, s254_811, s254_813, s254_814, s254_815, s254_816, s254_819, s254_821, s254_822, s254_825, s254_827, s254_830, s254_831, s254_832, s254_834, s254_837, s254_838, s254_839, s254_840, s254_842, s254_843, s254_844, s254_847, s254_848, s254_849, s254_1748, s254_1751, hf_bd_v, hf_bd_n, hf_iv_i, hf_iv_l, hf_iv_a, hf_iv_n, hf_iv_2, z_lgl, z_lgg, z_lge, z_lgle, z_lgz, Option.getD_some, Option.isSome_some, ↓reduceIte, not_true_eq_false, not_false_eq_true, Option.toList_some, Option.toList_none, List.cons_append, List.nil_append, Nat.reduceAdd, Nat.add_assoc, ku_ne, ku_same, ne_eq, Nat.reduceEqDiff, reduceCtorEq, Nat.add_eq_left, Nat.left_eq_add, Nat.reduceEqDiff, q10, q_ne, true_or, or_true, in1, cl1, ad1, ad2, ad3, ad4, ad5, hk1, hk2, km, kc, hx0, hx, hw, hm, th, ho2, z_o1, z_o2]
    exact hK σ2 g I4 J4 _ _ _ hI4 ⟨Nat.le_succ _, by omega⟩
  · obtain ⟨z, rfl⟩ := hv
    try dsimp only at hw
    try dsimp only at hm
    have th := m_thrown (I := I4) (J := J4) (lay_md hL0.th)
    rw [h38] at th
    simp only [s254_796, s254_797, s254_798, s254_800, s254_801, s254_802, s254_803, s254_804, s254_807, s254_809, s254_810, s254_811, s254_813, s254_814, s254_815, s254_816, s254_819, s254_821, s254_822, s254_825, s254_827, s254_830, s254_831, s254_832, s254_834, s254_837, s254_838, s254_839, s254_840, s254_842, s254_843, s254_844, s254_847, s254_848, s254_849, s254_1748, s254_1751, hf_bd_v, hf_bd_n, hf_iv_i, hf_iv_l, hf_iv_a, hf_iv_n, hf_iv_2, z_lgl, z_lgg, z_lge, z_lgle, z_lgz, Option.getD_some, Option.isSome_some, ↓reduceIte, not_true_eq_false, not_false_eq_true, Option.toList_some, Option.toList_none, List.cons_append, List.nil_append, Nat.reduceAdd, Nat.add_assoc, ku_ne, ku_same, ne_eq, Nat.reduceEqDiff, reduceCtorEq, Nat.add_eq_left, Nat.left_eq_add, Nat.reduceEqDiff, q10, q_ne, true_or, or_true, in1, cl1, ad1, ad2, ad3, ad4, ad5, k_th, hk1, hk2, km, kc, hx0, hx, hw, hm, th, hk0]
    exact hK σ2 (hf_th g) I4 J4 _ _ _ hI4 ⟨Nat.le_refl _, Nat.le_refl _⟩
theorem lc_grains (hI : LI L xs σ g I J) (ht : 5 * t + 5 ≤ L) (hL : L ≤ 2560) (hK : Cont L xs g t P) : P (hf_rn 254 852 [some (.ref 1000001), some (.ref 0), some (.ref 270), some (.ref 292), some (.int (nI (5 * t))), l5, l6, l7] [] g I J) := by
  obtain ⟨ad1, ad2, ad3, ad4, ad5⟩ := ads t
  obtain ⟨in1, cl1⟩ := ins (a := 5 * t + 1) (L := L) (by omega) hL
  obtain ⟨in2, cl2⟩ := ins (a := 5 * t + 2) (L := L) (by omega) hL
  have hk1 : hf_k g 1000001 = (6, L) := hI.2.2.2.2.2.1
  have hk2 : hf_k g 292 = (3, 1) := hI.2.2.2.2.2.2.1
  have hx0 : I 1000001 = xs := hI.2.2.2.2.2.2.2
  have hL0 := hI.2.1
  have kc : hf_k g 0 = (0, 9) := hx_k (lay_hx hL0)
  have km : hf_k g 270 = (0, 10) := (lay_md hL0).1
  rcases lwf_grains (i := xs (5 * t + 1)) (j := xs (5 * t + 2)) hI with ⟨σ2, v, I2, J2, I4, J4, hv, hw, hm, ho, h38, hI4, hx⟩ | ⟨σ2, k, w, I2, J2, I4, J4, hv, hk0, hw, hm, h38, hI4, hx⟩
  · obtain ⟨z, rfl⟩ := hv
    have ho2 : J4 292 0 = z := by rw [← ho]; exact ku_same
    try dsimp only at hw
    try dsimp only at hm
    have th := m_thrown (I := I4) (J := J4) (lay_md hL0)
    rw [h38] at th
    simp only [s254_852, s254_853, s254_854, s254_856, s254_857, s254_858, s254_859, s254_860, s254_862, s254_863, s254_864, s254_865, s254_866, s254_869, s254_871, s254_872, s254_873, s254_875, s254_876, s254_877, s254_878, s254_879, s254_881, s254_882, s254_883, s254_884, s254_887, s254_889, s254_890, s254_893, s254_895, s254_898, s254_899, s254_900, s254_902, s254_905, s254_906, s254_907, s254_908, s254_910, s254_911, s254_914, s254_915, s254_916, s254_1748, s254_1751, hf_bd_v, hf_bd_n, hf_iv_i, hf_iv_l, hf_iv_a, hf_iv_n, hf_iv_2, z_lgl, z_lgg, z_lge, z_lgle, z_lgz, Option.getD_some, Option.isSome_some, ↓reduceIte, not_true_eq_false, not_false_eq_true, Option.toList_some, Option.toList_none, List.cons_append, List.nil_append, Nat.reduceAdd, Nat.add_assoc, ku_ne, ku_same, ne_eq, Nat.reduceEqDiff, reduceCtorEq, Nat.add_eq_left, Nat.left_eq_add, Nat.reduceEqDiff, q10, q_ne, true_or, or_true, in1, cl1, in2, cl2, ad1, ad2, ad3, ad4, ad5, hk1, hk2, km, kc, hx0, hx, hw, hm, th, ho2, z_o1, z_o2]
    exact hK σ2 g I4 J4 _ _ _ hI4 ⟨Nat.le_succ _, by omega⟩
  · obtain ⟨z, rfl⟩ := hv
    try dsimp only at hw
    try dsimp only at hm
    have th := m_thrown (I := I4) (J := J4) (lay_md hL0.th)
    rw [h38] at th
    simp only [s254_852, s254_853, s254_854, s254_856, s254_857, s254_858, s254_859, s254_860, s254_862, s254_863, s254_864, s254_865, s254_866, s254_869, s254_871, s254_872, s254_873, s254_875, s254_876, s254_877, s254_878, s254_879, s254_881, s254_882, s254_883, s254_884, s254_887, s254_889, s254_890, s254_893, s254_895, s254_898, s254_899, s254_900, s254_902, s254_905, s254_906, s254_907, s254_908, s254_910, s254_911, s254_914, s254_915, s254_916, s254_1748, s254_1751, hf_bd_v, hf_bd_n, hf_iv_i, hf_iv_l, hf_iv_a, hf_iv_n, hf_iv_2, z_lgl, z_lgg, z_lge, z_lgle, z_lgz, Option.getD_some, Option.isSome_some, ↓reduceIte, not_true_eq_false, not_false_eq_true, Option.toList_some, Option.toList_none, List.cons_append, List.nil_append, Nat.reduceAdd, Nat.add_assoc, ku_ne, ku_same, ne_eq, Nat.reduceEqDiff, reduceCtorEq, Nat.add_eq_left, Nat.left_eq_add, Nat.reduceEqDiff, q10, q_ne, true_or, or_true, in1, cl1, in2, cl2, ad1, ad2, ad3, ad4, ad5, k_th, hk1, hk2, km, kc, hx0, hx, hw, hm, th, hk0]
    exact hK σ2 (hf_th g) I4 J4 _ _ _ hI4 ⟨Nat.le_refl _, Nat.le_refl _⟩
theorem lc_ofHalo (hI : LI L xs σ g I J) (ht : 5 * t + 5 ≤ L) (hL : L ≤ 2560) (hK : Cont L xs g t P) : P (hf_rn 254 919 [some (.ref 1000001), some (.ref 0), some (.ref 270), some (.ref 292), some (.int (nI (5 * t))), l5, l6, l7] [] g I J) := by
  obtain ⟨ad1, ad2, ad3, ad4, ad5⟩ := ads t
  obtain ⟨in1, cl1⟩ := ins (a := 5 * t + 1) (L := L) (by omega) hL
  obtain ⟨in2, cl2⟩ := ins (a := 5 * t + 2) (L := L) (by omega) hL
  obtain ⟨in3, cl3⟩ := ins (a := 5 * t + 3) (L := L) (by omega) hL
  have hk1 : hf_k g 1000001 = (6, L) := hI.2.2.2.2.2.1
  have hk2 : hf_k g 292 = (3, 1) := hI.2.2.2.2.2.2.1
  have hx0 : I 1000001 = xs := hI.2.2.2.2.2.2.2
  have hL0 := hI.2.1
  have kc : hf_k g 0 = (0, 9) := hx_k (lay_hx hL0)
  have km : hf_k g 270 = (0, 10) := (lay_md hL0).1
  rcases lwf_ofHalo (i := xs (5 * t + 1)) (j := xs (5 * t + 2)) (y := xs (5 * t + 3)) hI with ⟨σ2, v, I2, J2, I4, J4, hv, hw, hm, ho, h38, hI4, hx⟩ | ⟨σ2, k, w, I2, J2, I4, J4, hv, hk0, hw, hm, h38, hI4, hx⟩
  · obtain ⟨z, rfl⟩ := hv
    have ho2 : J4 292 0 = z := by rw [← ho]; exact ku_same
    try dsimp only at hw
    try dsimp only at hm
    have th := m_thrown (I := I4) (J := J4) (lay_md hL0)
    rw [h38] at th
    simp only [s254_919, s254_920, s254_921, s254_923, s254_924, s254_925, s254_926, s254_927, s254_929, s254_930, s254_931, s254_932, s254_933, s254_935, s254_936, s254_937, s254_938, s254_939, s254_942, s254_944, s254_945, s254_946, s254_948, s254_949, s254_950, s254_951, s254_952, s254_954, s254_955, s254_956, s254_957, s254_958, s254_960, s254_961, s254_962, s254_963, s254_966, s254_968, s254_969, s254_972, s254_974, s254_977, s254_978, s254_979, s254_981, s254_984, s254_985, s254_986, s254_987, s254_989, s254_990, s254_993, s254_994, s254_995, s254_1748, s254_1751, hf_bd_v, hf_bd_n, hf_iv_i, hf_iv_l, hf_iv_a, hf_iv_n, hf_iv_2, z_lgl, z_lgg, z_lge, z_lgle, z_lgz, Option.getD_some, Option.isSome_some, ↓reduceIte, not_true_eq_false, not_false_eq_true, Option.toList_some, Option.toList_none, List.cons_append, List.nil_append, Nat.reduceAdd, Nat.add_assoc, ku_ne, ku_same, ne_eq, Nat.reduceEqDiff, reduceCtorEq, Nat.add_eq_left, Nat.left_eq_add, Nat.reduceEqDiff, q10, q_ne, true_or, or_true, in1, cl1, in2, cl2, in3, cl3, ad1, ad2, ad3, ad4, ad5, hk1, hk2, km, kc, hx0, hx, hw, hm, th, ho2, z_o1, z_o2]
    exact hK σ2 g I4 J4 _ _ _ hI4 ⟨Nat.le_succ _, by omega⟩
  · obtain ⟨z, rfl⟩ := hv
    try dsimp only at hw
    try dsimp only at hm
    have th := m_thrown (I := I4) (J := J4) (lay_md hL0.th)
    rw [h38] at th
    simp only [s254_919, s254_920, s254_921, s254_923, s254_924, s254_925, s254_926, s254_927, s254_929, s254_930, s254_931, s254_932, s254_933, s254_935, s254_936, s254_937, s254_938, s254_939, s254_942, s254_944, s254_945, s254_946, s254_948, s254_949, s254_950, s254_951, s254_952, s254_954, s254_955, s254_956, s254_957, s254_958, s254_960, s254_961, s254_962, s254_963, s254_966, s254_968, s254_969, s254_972, s254_974, s254_977, s254_978, s254_979, s254_981, s254_984, s254_985, s254_986, s254_987, s254_989, s254_990, s254_993, s254_994, s254_995, s254_1748, s254_1751, hf_bd_v, hf_bd_n, hf_iv_i, hf_iv_l, hf_iv_a, hf_iv_n, hf_iv_2, z_lgl, z_lgg, z_lge, z_lgle, z_lgz, Option.getD_some, Option.isSome_some, ↓reduceIte, not_true_eq_false, not_false_eq_true, Option.toList_some, Option.toList_none, List.cons_append, List.nil_append, Nat.reduceAdd, Nat.add_assoc, ku_ne, ku_same, ne_eq, Nat.reduceEqDiff, reduceCtorEq, Nat.add_eq_left, Nat.left_eq_add, Nat.reduceEqDiff, q10, q_ne, true_or, or_true, in1, cl1, in2, cl2, in3, cl3, ad1, ad2, ad3, ad4, ad5, k_th, hk1, hk2, km, kc, hx0, hx, hw, hm, th, hk0]
    exact hK σ2 (hf_th g) I4 J4 _ _ _ hI4 ⟨Nat.le_refl _, Nat.le_refl _⟩
theorem lc_bound (hI : LI L xs σ g I J) (ht : 5 * t + 5 ≤ L) (hL : L ≤ 2560) (hK : Cont L xs g t P) : P (hf_rn 254 998 [some (.ref 1000001), some (.ref 0), some (.ref 270), some (.ref 292), some (.int (nI (5 * t))), l5, l6, l7] [] g I J) := by
  obtain ⟨ad1, ad2, ad3, ad4, ad5⟩ := ads t
  obtain ⟨in1, cl1⟩ := ins (a := 5 * t + 1) (L := L) (by omega) hL
  obtain ⟨in2, cl2⟩ := ins (a := 5 * t + 2) (L := L) (by omega) hL
  have hk1 : hf_k g 1000001 = (6, L) := hI.2.2.2.2.2.1
  have hk2 : hf_k g 292 = (3, 1) := hI.2.2.2.2.2.2.1
  have hx0 : I 1000001 = xs := hI.2.2.2.2.2.2.2
  have hL0 := hI.2.1
  have kc : hf_k g 0 = (0, 9) := hx_k (lay_hx hL0)
  have km : hf_k g 270 = (0, 10) := (lay_md hL0).1
  rcases lwf_bound (i := xs (5 * t + 1)) (j := xs (5 * t + 2)) hI with ⟨σ2, v, I2, J2, I4, J4, hv, hw, hm, ho, h38, hI4, hx⟩ | ⟨σ2, k, w, I2, J2, I4, J4, hv, hk0, hw, hm, h38, hI4, hx⟩
  · obtain ⟨z, rfl⟩ := hv
    have ho2 : J4 292 0 = z := by rw [← ho]; exact ku_same
    try dsimp only at hw
    try dsimp only at hm
    have th := m_thrown (I := I4) (J := J4) (lay_md hL0)
    rw [h38] at th
    simp only [s254_998, s254_999, s254_1000, s254_1002, s254_1003, s254_1004, s254_1005, s254_1006, s254_1008, s254_1009, s254_1010, s254_1011, s254_1012, s254_1015, s254_1017, s254_1018, s254_1019, s254_1021, s254_1022, s254_1023, s254_1024, s254_1025, s254_1027, s254_1028, s254_1029, s254_1030, s254_1033, s254_1035, s254_1036, s254_1039, s254_1041, s254_1044, s254_1045, s254_1046, s254_1048, s254_1051, s254_1052, s254_1053, s254_1054, s254_1056, s254_1057, s254_1060, s254_1061, s254_1062, s254_1748, s254_1751, hf_bd_v, hf_bd_n, hf_iv_i, hf_iv_l, hf_iv_a, hf_iv_n, hf_iv_2, z_lgl, z_lgg, z_lge, z_lgle, z_lgz, Option.getD_some, Option.isSome_some, ↓reduceIte, not_true_eq_false, not_false_eq_true, Option.toList_some, Option.toList_none, List.cons_append, List.nil_append, Nat.reduceAdd, Nat.add_assoc, ku_ne, ku_same, ne_eq, Nat.reduceEqDiff, reduceCtorEq, Nat.add_eq_left, Nat.left_eq_add, Nat.reduceEqDiff, q10, q_ne, true_or, or_true, in1, cl1, in2, cl2, ad1, ad2, ad3, ad4, ad5, hk1, hk2, km, kc, hx0, hx, hw, hm, th, ho2, z_o1, z_o2]
    exact hK σ2 g I4 J4 _ _ _ hI4 ⟨Nat.le_succ _, by omega⟩
  · obtain ⟨z, rfl⟩ := hv
    try dsimp only at hw
    try dsimp only at hm
    have th := m_thrown (I := I4) (J := J4) (lay_md hL0.th)
    rw [h38] at th
    simp only [s254_998, s254_999, s254_1000, s254_1002, s254_1003, s254_1004, s254_1005, s254_1006, s254_1008, s254_1009, s254_1010, s254_1011, s254_1012, s254_1015, s254_1017, s254_1018, s254_1019, s254_1021, s254_1022, s254_1023, s254_1024, s254_1025, s254_1027, s254_1028, s254_1029, s254_1030, s254_1033, s254_1035, s254_1036, s254_1039, s254_1041, s254_1044, s254_1045, s254_1046, s254_1048, s254_1051, s254_1052, s254_1053, s254_1054, s254_1056, s254_1057, s254_1060, s254_1061, s254_1062, s254_1748, s254_1751, hf_bd_v, hf_bd_n, hf_iv_i, hf_iv_l, hf_iv_a, hf_iv_n, hf_iv_2, z_lgl, z_lgg, z_lge, z_lgle, z_lgz, Option.getD_some, Option.isSome_some, ↓reduceIte, not_true_eq_false, not_false_eq_true, Option.toList_some, Option.toList_none, List.cons_append, List.nil_append, Nat.reduceAdd, Nat.add_assoc, ku_ne, ku_same, ne_eq, Nat.reduceEqDiff, reduceCtorEq, Nat.add_eq_left, Nat.left_eq_add, Nat.reduceEqDiff, q10, q_ne, true_or, or_true, in1, cl1, in2, cl2, ad1, ad2, ad3, ad4, ad5, k_th, hk1, hk2, km, kc, hx0, hx, hw, hm, th, hk0]
    exact hK σ2 (hf_th g) I4 J4 _ _ _ hI4 ⟨Nat.le_refl _, Nat.le_refl _⟩
theorem lc_keep (hI : LI L xs σ g I J) (ht : 5 * t + 5 ≤ L) (hL : L ≤ 2560) (hK : Cont L xs g t P) : P (hf_rn 254 1065 [some (.ref 1000001), some (.ref 0), some (.ref 270), some (.ref 292), some (.int (nI (5 * t))), l5, l6, l7] [] g I J) := by
  obtain ⟨ad1, ad2, ad3, ad4, ad5⟩ := ads t
  have hk1 : hf_k g 1000001 = (6, L) := hI.2.2.2.2.2.1
  have hk2 : hf_k g 292 = (3, 1) := hI.2.2.2.2.2.2.1
  have hx0 : I 1000001 = xs := hI.2.2.2.2.2.2.2
  have hL0 := hI.2.1
  have kc : hf_k g 0 = (0, 9) := hx_k (lay_hx hL0)
  have km : hf_k g 270 = (0, 10) := (lay_md hL0).1
  rcases lwf_keep hI with ⟨σ2, v, I2, J2, I4, J4, hv, hw, hm, ho, h38, hI4, hx⟩ | ⟨σ2, k, w, I2, J2, I4, J4, hv, hk0, hw, hm, h38, hI4, hx⟩
  · obtain ⟨z, rfl⟩ := hv
    have ho2 : J4 292 0 = z.toInt64 := by rw [← ho]; exact ku_same
    try dsimp only at hw
    try dsimp only at hm
    have th := m_thrown (I := I4) (J := J4) (lay_md hL0)
    rw [h38] at th
    simp only [s254_1065, s254_1066, s254_1067, s254_1070, s254_1072, s254_1073, s254_1076, s254_1078, s254_1079, s254_1082, s254_1084, s254_1087, s254_1088, s254_1089, s254_1091, s254_1094, s254_1095, s254_1096, s254_1097, s254_1099, s254_1100, s254_1101, s254_1104, s254_1105, s254_1106, s254_1748, s254_1751, hf_bd_v, hf_bd_n, hf_iv_i, hf_iv_l, hf_iv_a, hf_iv_n, hf_iv_2, z_lgl, z_lgg, z_lge, z_lgle, z_lgz, Option.getD_some, Option.isSome_some, ↓reduceIte, not_true_eq_false, not_false_eq_true, Option.toList_some, Option.toList_none, List.cons_append, List.nil_append, Nat.reduceAdd, Nat.add_assoc, ku_ne, ku_same, ne_eq, Nat.reduceEqDiff, reduceCtorEq, Nat.add_eq_left, Nat.left_eq_add, Nat.reduceEqDiff, q10, q_ne, true_or, or_true, ad1, ad2, ad3, ad4, ad5, hk1, hk2, km, kc, hx0, hx, hw, hm, th, ho2, z_o1, z_o2]
    exact hK σ2 g I4 J4 _ _ _ hI4 ⟨Nat.le_succ _, by omega⟩
  · obtain ⟨z, rfl⟩ := hv
    try dsimp only at hw
    try dsimp only at hm
    have th := m_thrown (I := I4) (J := J4) (lay_md hL0.th)
    rw [h38] at th
    simp only [s254_1065, s254_1066, s254_1067, s254_1070, s254_1072, s254_1073, s254_1076, s254_1078, s254_1079, s254_1082, s254_1084, s254_1087, s254_1088, s254_1089, s254_1091, s254_1094, s254_1095, s254_1096, s254_1097, s254_1099, s254_1100, s254_1101, s254_1104, s254_1105, s254_1106, s254_1748, s254_1751, hf_bd_v, hf_bd_n, hf_iv_i, hf_iv_l, hf_iv_a, hf_iv_n, hf_iv_2, z_lgl, z_lgg, z_lge, z_lgle, z_lgz, Option.getD_some, Option.isSome_some, ↓reduceIte, not_true_eq_false, not_false_eq_true, Option.toList_some, Option.toList_none, List.cons_append, List.nil_append, Nat.reduceAdd, Nat.add_assoc, ku_ne, ku_same, ne_eq, Nat.reduceEqDiff, reduceCtorEq, Nat.add_eq_left, Nat.left_eq_add, Nat.reduceEqDiff, q10, q_ne, true_or, or_true, ad1, ad2, ad3, ad4, ad5, k_th, hk1, hk2, km, kc, hx0, hx, hw, hm, th, hk0]
    exact hK σ2 (hf_th g) I4 J4 _ _ _ hI4 ⟨Nat.le_refl _, Nat.le_refl _⟩
theorem lc_next (hI : LI L xs σ g I J) (ht : 5 * t + 5 ≤ L) (hL : L ≤ 2560) (hK : Cont L xs g t P) : P (hf_rn 254 1109 [some (.ref 1000001), some (.ref 0), some (.ref 270), some (.ref 292), some (.int (nI (5 * t))), l5, l6, l7] [] g I J) := by
  obtain ⟨ad1, ad2, ad3, ad4, ad5⟩ := ads t
  obtain ⟨in1, cl1⟩ := ins (a := 5 * t + 1) (L := L) (by omega) hL
  obtain ⟨in2, cl2⟩ := ins (a := 5 * t + 2) (L := L) (by omega) hL
  have hk1 : hf_k g 1000001 = (6, L) := hI.2.2.2.2.2.1
  have hk2 : hf_k g 292 = (3, 1) := hI.2.2.2.2.2.2.1
  have hx0 : I 1000001 = xs := hI.2.2.2.2.2.2.2
  have hL0 := hI.2.1
  have kc : hf_k g 0 = (0, 9) := hx_k (lay_hx hL0)
  have km : hf_k g 270 = (0, 10) := (lay_md hL0).1
  rcases lwf_next (i := xs (5 * t + 1)) (j := xs (5 * t + 2)) hI with ⟨σ2, v, I2, J2, I4, J4, hv, hw, hm, ho, h38, hI4, hx⟩ | ⟨σ2, k, w, I2, J2, I4, J4, hv, hk0, hw, hm, h38, hI4, hx⟩
  · obtain ⟨z, rfl⟩ := hv
    have ho2 : J4 292 0 = z.toInt64 := by rw [← ho]; exact ku_same
    try dsimp only at hw
    try dsimp only at hm
    have th := m_thrown (I := I4) (J := J4) (lay_md hL0)
    rw [h38] at th
    simp only [s254_1109, s254_1110, s254_1111, s254_1113, s254_1114, s254_1115, s254_1116, s254_1117, s254_1119, s254_1120, s254_1121, s254_1122, s254_1123, s254_1126, s254_1128, s254_1129, s254_1130, s254_1132, s254_1133, s254_1134, s254_1135, s254_1136, s254_1138, s254_1139, s254_1140, s254_1141, s254_1144, s254_1146, s254_1147, s254_1150, s254_1152, s254_1155, s254_1156, s254_1157, s254_1159, s254_1162, s254_1163, s254_1164, s254_1165, s254_1167, s254_1168, s254_1169, s254_1172, s254_1173, s254_1174, s254_1748, s254_1751, hf_bd_v, hf_bd_n, hf_iv_i, hf_iv_l, hf_iv_a, hf_iv_n, hf_iv_2, z_lgl, z_lgg, z_lge, z_lgle, z_lgz, Option.getD_some, Option.isSome_some, ↓reduceIte, not_true_eq_false, not_false_eq_true, Option.toList_some, Option.toList_none, List.cons_append, List.nil_append, Nat.reduceAdd, Nat.add_assoc, ku_ne, ku_same, ne_eq, Nat.reduceEqDiff, reduceCtorEq, Nat.add_eq_left, Nat.left_eq_add, Nat.reduceEqDiff, q10, q_ne, true_or, or_true, in1, cl1, in2, cl2, ad1, ad2, ad3, ad4, ad5, hk1, hk2, km, kc, hx0, hx, hw, hm, th, ho2, z_o1, z_o2]
    exact hK σ2 g I4 J4 _ _ _ hI4 ⟨Nat.le_succ _, by omega⟩
  · obtain ⟨z, rfl⟩ := hv
    try dsimp only at hw
    try dsimp only at hm
    have th := m_thrown (I := I4) (J := J4) (lay_md hL0.th)
    rw [h38] at th
    simp only [s254_1109, s254_1110, s254_1111, s254_1113, s254_1114, s254_1115, s254_1116, s254_1117, s254_1119, s254_1120, s254_1121, s254_1122, s254_1123, s254_1126, s254_1128, s254_1129, s254_1130, s254_1132, s254_1133, s254_1134, s254_1135, s254_1136, s254_1138, s254_1139, s254_1140, s254_1141, s254_1144, s254_1146, s254_1147, s254_1150, s254_1152, s254_1155, s254_1156, s254_1157, s254_1159, s254_1162, s254_1163, s254_1164, s254_1165, s254_1167, s254_1168, s254_1169, s254_1172, s254_1173, s254_1174, s254_1748, s254_1751, hf_bd_v, hf_bd_n, hf_iv_i, hf_iv_l, hf_iv_a, hf_iv_n, hf_iv_2, z_lgl, z_lgg, z_lge, z_lgle, z_lgz, Option.getD_some, Option.isSome_some, ↓reduceIte, not_true_eq_false, not_false_eq_true, Option.toList_some, Option.toList_none, List.cons_append, List.nil_append, Nat.reduceAdd, Nat.add_assoc, ku_ne, ku_same, ne_eq, Nat.reduceEqDiff, reduceCtorEq, Nat.add_eq_left, Nat.left_eq_add, Nat.reduceEqDiff, q10, q_ne, true_or, or_true, in1, cl1, in2, cl2, ad1, ad2, ad3, ad4, ad5, k_th, hk1, hk2, km, kc, hx0, hx, hw, hm, th, hk0]
    exact hK σ2 (hf_th g) I4 J4 _ _ _ hI4 ⟨Nat.le_refl _, Nat.le_refl _⟩
theorem lc_from (hI : LI L xs σ g I J) (ht : 5 * t + 5 ≤ L) (hL : L ≤ 2560) (hK : Cont L xs g t P) : P (hf_rn 254 1177 [some (.ref 1000001), some (.ref 0), some (.ref 270), some (.ref 292), some (.int (nI (5 * t))), l5, l6, l7] [] g I J) := by
  obtain ⟨ad1, ad2, ad3, ad4, ad5⟩ := ads t
  obtain ⟨in1, cl1⟩ := ins (a := 5 * t + 1) (L := L) (by omega) hL
  obtain ⟨in2, cl2⟩ := ins (a := 5 * t + 2) (L := L) (by omega) hL
  have hk1 : hf_k g 1000001 = (6, L) := hI.2.2.2.2.2.1
  have hk2 : hf_k g 292 = (3, 1) := hI.2.2.2.2.2.2.1
  have hx0 : I 1000001 = xs := hI.2.2.2.2.2.2.2
  have hL0 := hI.2.1
  have kc : hf_k g 0 = (0, 9) := hx_k (lay_hx hL0)
  have km : hf_k g 270 = (0, 10) := (lay_md hL0).1
  rcases lwf_from (i := xs (5 * t + 1)) (j := xs (5 * t + 2)) hI with ⟨σ2, v, I2, J2, I4, J4, hv, hw, hm, ho, h38, hI4, hx⟩ | ⟨σ2, k, w, I2, J2, I4, J4, hv, hk0, hw, hm, h38, hI4, hx⟩
  · obtain ⟨z, rfl⟩ := hv
    have ho2 : J4 292 0 = z.toInt64 := by rw [← ho]; exact ku_same
    try dsimp only at hw
    try dsimp only at hm
    have th := m_thrown (I := I4) (J := J4) (lay_md hL0)
    rw [h38] at th
    simp only [s254_1177, s254_1178, s254_1179, s254_1181, s254_1182, s254_1183, s254_1184, s254_1185, s254_1187, s254_1188, s254_1189, s254_1190, s254_1191, s254_1194, s254_1196, s254_1197, s254_1198, s254_1200, s254_1201, s254_1202, s254_1203, s254_1204, s254_1206, s254_1207, s254_1208, s254_1209, s254_1212, s254_1214, s254_1215, s254_1218, s254_1220, s254_1223, s254_1224, s254_1225, s254_1227, s254_1230, s254_1231, s254_1232, s254_1233, s254_1235, s254_1236, s254_1237, s254_1240, s254_1241, s254_1242, s254_1748, s254_1751, hf_bd_v, hf_bd_n, hf_iv_i, hf_iv_l, hf_iv_a, hf_iv_n, hf_iv_2, z_lgl, z_lgg, z_lge, z_lgle, z_lgz, Option.getD_some, Option.isSome_some, ↓reduceIte, not_true_eq_false, not_false_eq_true, Option.toList_some, Option.toList_none, List.cons_append, List.nil_append, Nat.reduceAdd, Nat.add_assoc, ku_ne, ku_same, ne_eq, Nat.reduceEqDiff, reduceCtorEq, Nat.add_eq_left, Nat.left_eq_add, Nat.reduceEqDiff, q10, q_ne, true_or, or_true, in1, cl1, in2, cl2, ad1, ad2, ad3, ad4, ad5, hk1, hk2, km, kc, hx0, hx, hw, hm, th, ho2, z_o1, z_o2]
    exact hK σ2 g I4 J4 _ _ _ hI4 ⟨Nat.le_succ _, by omega⟩
  · obtain ⟨z, rfl⟩ := hv
    try dsimp only at hw
    try dsimp only at hm
    have th := m_thrown (I := I4) (J := J4) (lay_md hL0.th)
    rw [h38] at th
    simp only [s254_1177, s254_1178, s254_1179, s254_1181, s254_1182, s254_1183, s254_1184, s254_1185, s254_1187, s254_1188, s254_1189, s254_1190, s254_1191, s254_1194, s254_1196, s254_1197, s254_1198, s254_1200, s254_1201, s254_1202, s254_1203, s254_1204, s254_1206, s254_1207, s254_1208, s254_1209, s254_1212, s254_1214, s254_1215, s254_1218, s254_1220, s254_1223, s254_1224, s254_1225, s254_1227, s254_1230, s254_1231, s254_1232, s254_1233, s254_1235, s254_1236, s254_1237, s254_1240, s254_1241, s254_1242, s254_1748, s254_1751, hf_bd_v, hf_bd_n, hf_iv_i, hf_iv_l, hf_iv_a, hf_iv_n, hf_iv_2, z_lgl, z_lgg, z_lge, z_lgle, z_lgz, Option.getD_some, Option.isSome_some, ↓reduceIte, not_true_eq_false, not_false_eq_true, Option.toList_some, Option.toList_none, List.cons_append, List.nil_append, Nat.reduceAdd, Nat.add_assoc, ku_ne, ku_same, ne_eq, Nat.reduceEqDiff, reduceCtorEq, Nat.add_eq_left, Nat.left_eq_add, Nat.reduceEqDiff, q10, q_ne, true_or, or_true, in1, cl1, in2, cl2, ad1, ad2, ad3, ad4, ad5, k_th, hk1, hk2, km, kc, hx0, hx, hw, hm, th, hk0]
    exact hK σ2 (hf_th g) I4 J4 _ _ _ hI4 ⟨Nat.le_refl _, Nat.le_refl _⟩
theorem lc_tree (hI : LI L xs σ g I J) (ht : 5 * t + 5 ≤ L) (hL : L ≤ 2560) (hK : Cont L xs g t P) : P (hf_rn 254 1245 [some (.ref 1000001), some (.ref 0), some (.ref 270), some (.ref 292), some (.int (nI (5 * t))), l5, l6, l7] [] g I J) := by
  obtain ⟨ad1, ad2, ad3, ad4, ad5⟩ := ads t
  obtain ⟨in1, cl1⟩ := ins (a := 5 * t + 1) (L := L) (by omega) hL
  obtain ⟨in2, cl2⟩ := ins (a := 5 * t + 2) (L := L) (by omega) hL
  obtain ⟨in3, cl3⟩ := ins (a := 5 * t + 3) (L := L) (by omega) hL
  have hk1 : hf_k g 1000001 = (6, L) := hI.2.2.2.2.2.1
  have hk2 : hf_k g 292 = (3, 1) := hI.2.2.2.2.2.2.1
  have hx0 : I 1000001 = xs := hI.2.2.2.2.2.2.2
  have hL0 := hI.2.1
  have kc : hf_k g 0 = (0, 9) := hx_k (lay_hx hL0)
  have km : hf_k g 270 = (0, 10) := (lay_md hL0).1
  rcases lwf_tree (i := xs (5 * t + 1)) (j := xs (5 * t + 2)) (x := xs (5 * t + 3)) hI with ⟨σ2, v, I2, J2, I4, J4, hv, hw, hm, ho, h38, hI4, hx⟩ | ⟨σ2, k, w, I2, J2, I4, J4, hv, hk0, hw, hm, h38, hI4, hx⟩
  · obtain ⟨z, rfl⟩ := hv
    have ho2 : J4 292 0 = z.toInt64 := by rw [← ho]; exact ku_same
    try dsimp only at hw
    try dsimp only at hm
    have th := m_thrown (I := I4) (J := J4) (lay_md hL0)
    rw [h38] at th
    simp only [s254_1245, s254_1246, s254_1247, s254_1249, s254_1250, s254_1251, s254_1252, s254_1253, s254_1255, s254_1256, s254_1257, s254_1258, s254_1259, s254_1261, s254_1262, s254_1263, s254_1264, s254_1265, s254_1268, s254_1270, s254_1271, s254_1272, s254_1274, s254_1275, s254_1276, s254_1277, s254_1278, s254_1280, s254_1281, s254_1282, s254_1283, s254_1284, s254_1286, s254_1287, s254_1288, s254_1289, s254_1292, s254_1294, s254_1295, s254_1298, s254_1300, s254_1303, s254_1304, s254_1305, s254_1307, s254_1310, s254_1311, s254_1312, s254_1313, s254_1315, s254_1316, s254_1317, s254_1320, s254_1321, s254_1322, s254_1748, s254_1751, hf_bd_v, hf_bd_n, hf_iv_i, hf_iv_l, hf_iv_a, hf_iv_n, hf_iv_2, z_lgl, z_lgg, z_lge, z_lgle, z_lgz, Option.getD_some, Option.isSome_some, ↓reduceIte, not_true_eq_false, not_false_eq_true, Option.toList_some, Option.toList_none, List.cons_append, List.nil_append, Nat.reduceAdd, Nat.add_assoc, ku_ne, ku_same, ne_eq, Nat.reduceEqDiff, reduceCtorEq, Nat.add_eq_left, Nat.left_eq_add, Nat.reduceEqDiff, q10, q_ne, true_or, or_true, in1, cl1, in2, cl2, in3, cl3, ad1, ad2, ad3, ad4, ad5, hk1, hk2, km, kc, hx0, hx, hw, hm, th, ho2, z_o1, z_o2]
    exact hK σ2 g I4 J4 _ _ _ hI4 ⟨Nat.le_succ _, by omega⟩
  · obtain ⟨z, rfl⟩ := hv
    try dsimp only at hw
    try dsimp only at hm
    have th := m_thrown (I := I4) (J := J4) (lay_md hL0.th)
    rw [h38] at th
    simp only [s254_1245, s254_1246, s254_1247, s254_1249, s254_1250, s254_1251, s254_1252, s254_1253, s254_1255, s254_1256, s254_1257, s254_1258, s254_1259, s254_1261, s254_1262, s254_1263, s254_1264, s254_1265, s254_1268, s254_1270, s254_1271, s254_1272, s254_1274, s254_1275, s254_1276, s254_1277, s254_1278, s254_1280, s254_1281, s254_1282, s254_1283, s254_1284, s254_1286, s254_1287, s254_1288, s254_1289, s254_1292, s254_1294, s254_1295, s254_1298, s254_1300, s254_1303, s254_1304, s254_1305, s254_1307, s254_1310, s254_1311, s254_1312, s254_1313, s254_1315, s254_1316, s254_1317, s254_1320, s254_1321, s254_1322, s254_1748, s254_1751, hf_bd_v, hf_bd_n, hf_iv_i, hf_iv_l, hf_iv_a, hf_iv_n, hf_iv_2, z_lgl, z_lgg, z_lge, z_lgle, z_lgz, Option.getD_some, Option.isSome_some, ↓reduceIte, not_true_eq_false, not_false_eq_true, Option.toList_some, Option.toList_none, List.cons_append, List.nil_append, Nat.reduceAdd, Nat.add_assoc, ku_ne, ku_same, ne_eq, Nat.reduceEqDiff, reduceCtorEq, Nat.add_eq_left, Nat.left_eq_add, Nat.reduceEqDiff, q10, q_ne, true_or, or_true, in1, cl1, in2, cl2, in3, cl3, ad1, ad2, ad3, ad4, ad5, k_th, hk1, hk2, km, kc, hx0, hx, hw, hm, th, hk0]
    exact hK σ2 (hf_th g) I4 J4 _ _ _ hI4 ⟨Nat.le_refl _, Nat.le_refl _⟩
theorem lc_recipes (hI : LI L xs σ g I J) (ht : 5 * t + 5 ≤ L) (hL : L ≤ 2560) (hK : Cont L xs g t P) : P (hf_rn 254 1325 [some (.ref 1000001), some (.ref 0), some (.ref 270), some (.ref 292), some (.int (nI (5 * t))), l5, l6, l7] [] g I J) := by
  obtain ⟨ad1, ad2, ad3, ad4, ad5⟩ := ads t
  obtain ⟨in1, cl1⟩ := ins (a := 5 * t + 1) (L := L) (by omega) hL
  obtain ⟨in2, cl2⟩ := ins (a := 5 * t + 2) (L := L) (by omega) hL
  obtain ⟨in3, cl3⟩ := ins (a := 5 * t + 3) (L := L) (by omega) hL
  have hk1 : hf_k g 1000001 = (6, L) := hI.2.2.2.2.2.1
  have hk2 : hf_k g 292 = (3, 1) := hI.2.2.2.2.2.2.1
  have hx0 : I 1000001 = xs := hI.2.2.2.2.2.2.2
  have hL0 := hI.2.1
  have kc : hf_k g 0 = (0, 9) := hx_k (lay_hx hL0)
  have km : hf_k g 270 = (0, 10) := (lay_md hL0).1
  rcases lwf_recipes (i := xs (5 * t + 1)) (j := xs (5 * t + 2)) (x := xs (5 * t + 3)) hI with ⟨σ2, v, I2, J2, I4, J4, hv, hw, hm, ho, h38, hI4, hx⟩ | ⟨σ2, k, w, I2, J2, I4, J4, hv, hk0, hw, hm, h38, hI4, hx⟩
  · subst hv
    try dsimp only at hw
    try dsimp only at hm
    have th := m_thrown (I := I4) (J := J4) (lay_md hL0)
    rw [h38] at th
    simp only [s254_1325, s254_1326, s254_1327, s254_1329, s254_1330, s254_1331, s254_1332, s254_1333, s254_1335, s254_1336, s254_1337, s254_1338, s254_1339, s254_1341, s254_1342, s254_1343, s254_1344, s254_1347, s254_1349, s254_1350, s254_1351, s254_1353, s254_1354, s254_1355, s254_1356, s254_1357, s254_1359, s254_1360, s254_1361, s254_1362, s254_1363, s254_1365, s254_1366, s254_1367, s254_1368, s254_1371, s254_1372, s254_1375, s254_1377, s254_1380, s254_1381, s254_1382, s254_1748, s254_1751, hf_bd_v, hf_bd_n, hf_iv_i, hf_iv_l, hf_iv_a, hf_iv_n, hf_iv_2, z_lgl, z_lgg, z_lge, z_lgle, z_lgz, Option.getD_some, Option.isSome_some, ↓reduceIte, not_true_eq_false, not_false_eq_true, Option.toList_some, Option.toList_none, List.cons_append, List.nil_append, Nat.reduceAdd, Nat.add_assoc, ku_ne, ku_same, ne_eq, Nat.reduceEqDiff, reduceCtorEq, Nat.add_eq_left, Nat.left_eq_add, Nat.reduceEqDiff, q10, q_ne, true_or, or_true, in1, cl1, in2, cl2, in3, cl3, ad1, ad2, ad3, ad4, ad5, hk1, hk2, km, kc, hx0, hx, hw, hm, th]
    exact hK σ2 g I4 J4 _ _ _ hI4 ⟨Nat.le_succ _, by omega⟩
  · subst hv
    try dsimp only at hw
    try dsimp only at hm
    have th := m_thrown (I := I4) (J := J4) (lay_md hL0.th)
    rw [h38] at th
    simp only [s254_1325, s254_1326, s254_1327, s254_1329, s254_1330, s254_1331, s254_1332, s254_1333, s254_1335, s254_1336, s254_1337, s254_1338, s254_1339, s254_1341, s254_1342, s254_1343, s254_1344, s254_1347, s254_1349, s254_1350, s254_1351, s254_1353, s254_1354, s254_1355, s254_1356, s254_1357, s254_1359, s254_1360, s254_1361, s254_1362, s254_1363, s254_1365, s254_1366, s254_1367, s254_1368, s254_1371, s254_1372, s254_1375, s254_1377, s254_1380, s254_1381, s254_1382, s254_1748, s254_1751, hf_bd_v, hf_bd_n, hf_iv_i, hf_iv_l, hf_iv_a, hf_iv_n, hf_iv_2, z_lgl, z_lgg, z_lge, z_lgle, z_lgz, Option.getD_some, Option.isSome_some, ↓reduceIte, not_true_eq_false, not_false_eq_true, Option.toList_some, Option.toList_none, List.cons_append, List.nil_append, Nat.reduceAdd, Nat.add_assoc, ku_ne, ku_same, ne_eq, Nat.reduceEqDiff, reduceCtorEq, Nat.add_eq_left, Nat.left_eq_add, Nat.reduceEqDiff, q10, q_ne, true_or, or_true, in1, cl1, in2, cl2, in3, cl3, ad1, ad2, ad3, ad4, ad5, k_th, hk1, hk2, km, kc, hx0, hx, hw, hm, th, hk0]
    exact hK σ2 (hf_th g) I4 J4 _ _ _ hI4 ⟨Nat.le_refl _, Nat.le_refl _⟩
theorem lc_galaxy (hI : LI L xs σ g I J) (ht : 5 * t + 5 ≤ L) (hL : L ≤ 2560) (hK : Cont L xs g t P) : P (hf_rn 254 1385 [some (.ref 1000001), some (.ref 0), some (.ref 270), some (.ref 292), some (.int (nI (5 * t))), l5, l6, l7] [] g I J) := by
  obtain ⟨ad1, ad2, ad3, ad4, ad5⟩ := ads t
  obtain ⟨in1, cl1⟩ := ins (a := 5 * t + 1) (L := L) (by omega) hL
  obtain ⟨in2, cl2⟩ := ins (a := 5 * t + 2) (L := L) (by omega) hL
  obtain ⟨in3, cl3⟩ := ins (a := 5 * t + 3) (L := L) (by omega) hL
  have hk1 : hf_k g 1000001 = (6, L) := hI.2.2.2.2.2.1
  have hk2 : hf_k g 292 = (3, 1) := hI.2.2.2.2.2.2.1
  have hx0 : I 1000001 = xs := hI.2.2.2.2.2.2.2
  have hL0 := hI.2.1
  have kc : hf_k g 0 = (0, 9) := hx_k (lay_hx hL0)
  have km : hf_k g 270 = (0, 10) := (lay_md hL0).1
  rcases lwf_galaxy (i := xs (5 * t + 1)) (j := xs (5 * t + 2)) (x := xs (5 * t + 3)) hI with ⟨σ2, v, I2, J2, I4, J4, hv, hw, hm, ho, h38, hI4, hx⟩ | ⟨σ2, k, w, I2, J2, I4, J4, hv, hk0, hw, hm, h38, hI4, hx⟩
  · obtain ⟨z, rfl⟩ := hv
    have ho2 : J4 292 0 = z.toInt64 := by rw [← ho]; exact ku_same
    try dsimp only at hw
    try dsimp only at hm
    have th := m_thrown (I := I4) (J := J4) (lay_md hL0)
    rw [h38] at th
    simp only [s254_1385, s254_1386, s254_1387, s254_1389, s254_1390, s254_1391, s254_1392, s254_1393, s254_1395, s254_1396, s254_1397, s254_1398, s254_1399, s254_1401, s254_1402, s254_1403, s254_1404, s254_1405, s254_1408, s254_1410, s254_1411, s254_1412, s254_1414, s254_1415, s254_1416, s254_1417, s254_1418, s254_1420, s254_1421, s254_1422, s254_1423, s254_1424, s254_1426, s254_1427, s254_1428, s254_1429, s254_1432, s254_1434, s254_1435, s254_1438, s254_1440, s254_1443, s254_1444, s254_1445, s254_1447, s254_1450, s254_1451, s254_1452, s254_1453, s254_1455, s254_1456, s254_1457, s254_1460, s254_1461, s254_1462, s254_1748, s254_1751, hf_bd_v, hf_bd_n, hf_iv_i, hf_iv_l, hf_iv_a, hf_iv_n, hf_iv_2, z_lgl, z_lgg, z_lge, z_lgle, z_lgz, Option.getD_some, Option.isSome_some, ↓reduceIte, not_true_eq_false, not_false_eq_true, Option.toList_some, Option.toList_none, List.cons_append, List.nil_append, Nat.reduceAdd, Nat.add_assoc, ku_ne, ku_same, ne_eq, Nat.reduceEqDiff, reduceCtorEq, Nat.add_eq_left, Nat.left_eq_add, Nat.reduceEqDiff, q10, q_ne, true_or, or_true, in1, cl1, in2, cl2, in3, cl3, ad1, ad2, ad3, ad4, ad5, hk1, hk2, km, kc, hx0, hx, hw, hm, th, ho2, z_o1, z_o2]
    exact hK σ2 g I4 J4 _ _ _ hI4 ⟨Nat.le_succ _, by omega⟩
  · obtain ⟨z, rfl⟩ := hv
    try dsimp only at hw
    try dsimp only at hm
    have th := m_thrown (I := I4) (J := J4) (lay_md hL0.th)
    rw [h38] at th
    simp only [s254_1385, s254_1386, s254_1387, s254_1389, s254_1390, s254_1391, s254_1392, s254_1393, s254_1395, s254_1396, s254_1397, s254_1398, s254_1399, s254_1401, s254_1402, s254_1403, s254_1404, s254_1405, s254_1408, s254_1410, s254_1411, s254_1412, s254_1414, s254_1415, s254_1416, s254_1417, s254_1418, s254_1420, s254_1421, s254_1422, s254_1423, s254_1424, s254_1426, s254_1427, s254_1428, s254_1429, s254_1432, s254_1434, s254_1435, s254_1438, s254_1440, s254_1443, s254_1444, s254_1445, s254_1447, s254_1450, s254_1451, s254_1452, s254_1453, s254_1455, s254_1456, s254_1457, s254_1460, s254_1461, s254_1462, s254_1748, s254_1751, hf_bd_v, hf_bd_n, hf_iv_i, hf_iv_l, hf_iv_a, hf_iv_n, hf_iv_2, z_lgl, z_lgg, z_lge, z_lgle, z_lgz, Option.getD_some, Option.isSome_some, ↓reduceIte, not_true_eq_false, not_false_eq_true, Option.toList_some, Option.toList_none, List.cons_append, List.nil_append, Nat.reduceAdd, Nat.add_assoc, ku_ne, ku_same, ne_eq, Nat.reduceEqDiff, reduceCtorEq, Nat.add_eq_left, Nat.left_eq_add, Nat.reduceEqDiff, q10, q_ne, true_or, or_true, in1, cl1, in2, cl2, in3, cl3, ad1, ad2, ad3, ad4, ad5, k_th, hk1, hk2, km, kc, hx0, hx, hw, hm, th, hk0]
    exact hK σ2 (hf_th g) I4 J4 _ _ _ hI4 ⟨Nat.le_refl _, Nat.le_refl _⟩
theorem lc_observe (hI : LI L xs σ g I J) (ht : 5 * t + 5 ≤ L) (hL : L ≤ 2560) (hK : Cont L xs g t P) : P (hf_rn 254 1478 [some (.ref 1000001), some (.ref 0), some (.ref 270), some (.ref 292), some (.int (nI (5 * t))), l5, l6, l7] [] g I J) := by
  obtain ⟨ad1, ad2, ad3, ad4, ad5⟩ := ads t
  obtain ⟨in1, cl1⟩ := ins (a := 5 * t + 1) (L := L) (by omega) hL
  obtain ⟨in2, cl2⟩ := ins (a := 5 * t + 2) (L := L) (by omega) hL
  obtain ⟨in3, cl3⟩ := ins (a := 5 * t + 3) (L := L) (by omega) hL
  have hk1 : hf_k g 1000001 = (6, L) := hI.2.2.2.2.2.1
  have hk2 : hf_k g 292 = (3, 1) := hI.2.2.2.2.2.2.1
  have hx0 : I 1000001 = xs := hI.2.2.2.2.2.2.2
  have hL0 := hI.2.1
  have kc : hf_k g 0 = (0, 9) := hx_k (lay_hx hL0)
  have km : hf_k g 270 = (0, 10) := (lay_md hL0).1
  rcases lwf_observe (i := xs (5 * t + 1)) (j := xs (5 * t + 2)) (x := xs (5 * t + 3)) hI with ⟨σ2, v, I2, J2, I4, J4, hv, hw, hm, ho, h38, hI4, hx⟩ | ⟨σ2, k, w, I2, J2, I4, J4, hv, hk0, hw, hm, h38, hI4, hx⟩
  · subst hv
    try dsimp only at hw
    try dsimp only at hm
    have th := m_thrown (I := I4) (J := J4) (lay_md hL0)
    rw [h38] at th
    simp only [s254_1478, s254_1479, s254_1480, s254_1482, s254_1483, s254_1484, s254_1485, s254_1486, s254_1488, s254_1489, s254_1490, s254_1491, s254_1492, s254_1494, s254_1495, s254_1496, s254_1497, s254_1500, s254_1502, s254_1503, s254_1504, s254_1506, s254_1507, s254_1508, s254_1509, s254_1510, s254_1512, s254_1513, s254_1514, s254_1515, s254_1516, s254_1518, s254_1519, s254_1520, s254_1521, s254_1524, s254_1525, s254_1528, s254_1530, s254_1533, s254_1534, s254_1535, s254_1748, s254_1751, hf_bd_v, hf_bd_n, hf_iv_i, hf_iv_l, hf_iv_a, hf_iv_n, hf_iv_2, z_lgl, z_lgg, z_lge, z_lgle, z_lgz, Option.getD_some, Option.isSome_some, ↓reduceIte, not_true_eq_false, not_false_eq_true, Option.toList_some, Option.toList_none, List.cons_append, List.nil_append, Nat.reduceAdd, Nat.add_assoc, ku_ne, ku_same, ne_eq, Nat.reduceEqDiff, reduceCtorEq, Nat.add_eq_left, Nat.left_eq_add, Nat.reduceEqDiff, q10, q_ne, true_or, or_true, in1, cl1, in2, cl2, in3, cl3, ad1, ad2, ad3, ad4, ad5, hk1, hk2, km, kc, hx0, hx, hw, hm, th]
    exact hK σ2 g I4 J4 _ _ _ hI4 ⟨Nat.le_succ _, by omega⟩
  · subst hv
    try dsimp only at hw
    try dsimp only at hm
    have th := m_thrown (I := I4) (J := J4) (lay_md hL0.th)
    rw [h38] at th
    simp only [s254_1478, s254_1479, s254_1480, s254_1482, s254_1483, s254_1484, s254_1485, s254_1486, s254_1488, s254_1489, s254_1490, s254_1491, s254_1492, s254_1494, s254_1495, s254_1496, s254_1497, s254_1500, s254_1502, s254_1503, s254_1504, s254_1506, s254_1507, s254_1508, s254_1509, s254_1510, s254_1512, s254_1513, s254_1514, s254_1515, s254_1516, s254_1518, s254_1519, s254_1520, s254_1521, s254_1524, s254_1525, s254_1528, s254_1530, s254_1533, s254_1534, s254_1535, s254_1748, s254_1751, hf_bd_v, hf_bd_n, hf_iv_i, hf_iv_l, hf_iv_a, hf_iv_n, hf_iv_2, z_lgl, z_lgg, z_lge, z_lgle, z_lgz, Option.getD_some, Option.isSome_some, ↓reduceIte, not_true_eq_false, not_false_eq_true, Option.toList_some, Option.toList_none, List.cons_append, List.nil_append, Nat.reduceAdd, Nat.add_assoc, ku_ne, ku_same, ne_eq, Nat.reduceEqDiff, reduceCtorEq, Nat.add_eq_left, Nat.left_eq_add, Nat.reduceEqDiff, q10, q_ne, true_or, or_true, in1, cl1, in2, cl2, in3, cl3, ad1, ad2, ad3, ad4, ad5, k_th, hk1, hk2, km, kc, hx0, hx, hw, hm, th, hk0]
    exact hK σ2 (hf_th g) I4 J4 _ _ _ hI4 ⟨Nat.le_refl _, Nat.le_refl _⟩
theorem lc_survey (hI : LI L xs σ g I J) (ht : 5 * t + 5 ≤ L) (hL : L ≤ 2560) (hK : Cont L xs g t P) : P (hf_rn 254 1538 [some (.ref 1000001), some (.ref 0), some (.ref 270), some (.ref 292), some (.int (nI (5 * t))), l5, l6, l7] [] g I J) := by
  obtain ⟨ad1, ad2, ad3, ad4, ad5⟩ := ads t
  obtain ⟨in1, cl1⟩ := ins (a := 5 * t + 1) (L := L) (by omega) hL
  obtain ⟨in2, cl2⟩ := ins (a := 5 * t + 2) (L := L) (by omega) hL
  have hk1 : hf_k g 1000001 = (6, L) := hI.2.2.2.2.2.1
  have hk2 : hf_k g 292 = (3, 1) := hI.2.2.2.2.2.2.1
  have hx0 : I 1000001 = xs := hI.2.2.2.2.2.2.2
  have hL0 := hI.2.1
  have kc : hf_k g 0 = (0, 9) := hx_k (lay_hx hL0)
  have km : hf_k g 270 = (0, 10) := (lay_md hL0).1
  rcases lwf_survey (i := xs (5 * t + 1)) (j := xs (5 * t + 2)) hI with ⟨σ2, v, I2, J2, I4, J4, hv, hw, hm, ho, h38, hI4, hx⟩ | ⟨σ2, k, w, I2, J2, I4, J4, hv, hk0, hw, hm, h38, hI4, hx⟩
  · subst hv
    try dsimp only at hw
    try dsimp only at hm
    have th := m_thrown (I := I4) (J := J4) (lay_md hL0)
    rw [h38] at th
    simp only [s254_1538, s254_1539, s254_1540, s254_1542, s254_1543, s254_1544, s254_1545, s254_1546, s254_1548, s254_1549, s254_1550, s254_1551, s254_1554, s254_1556, s254_1557, s254_1558, s254_1560, s254_1561, s254_1562, s254_1563, s254_1564, s254_1566, s254_1567, s254_1568, s254_1569, s254_1572, s254_1573, s254_1576, s254_1578, s254_1581, s254_1582, s254_1583, s254_1748, s254_1751, hf_bd_v, hf_bd_n, hf_iv_i, hf_iv_l, hf_iv_a, hf_iv_n, hf_iv_2, z_lgl, z_lgg, z_lge, z_lgle, z_lgz, Option.getD_some, Option.isSome_some, ↓reduceIte, not_true_eq_false, not_false_eq_true, Option.toList_some, Option.toList_none, List.cons_append, List.nil_append, Nat.reduceAdd, Nat.add_assoc, ku_ne, ku_same, ne_eq, Nat.reduceEqDiff, reduceCtorEq, Nat.add_eq_left, Nat.left_eq_add, Nat.reduceEqDiff, q10, q_ne, true_or, or_true, in1, cl1, in2, cl2, ad1, ad2, ad3, ad4, ad5, hk1, hk2, km, kc, hx0, hx, hw, hm, th]
    exact hK σ2 g I4 J4 _ _ _ hI4 ⟨Nat.le_succ _, by omega⟩
  · subst hv
    try dsimp only at hw
    try dsimp only at hm
    have th := m_thrown (I := I4) (J := J4) (lay_md hL0.th)
    rw [h38] at th
    simp only [s254_1538, s254_1539, s254_1540, s254_1542, s254_1543, s254_1544, s254_1545, s254_1546, s254_1548, s254_1549, s254_1550, s254_1551, s254_1554, s254_1556, s254_1557, s254_1558, s254_1560, s254_1561, s254_1562, s254_1563, s254_1564, s254_1566, s254_1567, s254_1568, s254_1569, s254_1572, s254_1573, s254_1576, s254_1578, s254_1581, s254_1582, s254_1583, s254_1748, s254_1751, hf_bd_v, hf_bd_n, hf_iv_i, hf_iv_l, hf_iv_a, hf_iv_n, hf_iv_2, z_lgl, z_lgg, z_lge, z_lgle, z_lgz, Option.getD_some, Option.isSome_some, ↓reduceIte, not_true_eq_false, not_false_eq_true, Option.toList_some, Option.toList_none, List.cons_append, List.nil_append, Nat.reduceAdd, Nat.add_assoc, ku_ne, ku_same, ne_eq, Nat.reduceEqDiff, reduceCtorEq, Nat.add_eq_left, Nat.left_eq_add, Nat.reduceEqDiff, q10, q_ne, true_or, or_true, in1, cl1, in2, cl2, ad1, ad2, ad3, ad4, ad5, k_th, hk1, hk2, km, kc, hx0, hx, hw, hm, th, hk0]
    exact hK σ2 (hf_th g) I4 J4 _ _ _ hI4 ⟨Nat.le_refl _, Nat.le_refl _⟩
theorem lc_sky (hI : LI L xs σ g I J) (ht : 5 * t + 5 ≤ L) (hL : L ≤ 2560) (hK : Cont L xs g t P) : P (hf_rn 254 1599 [some (.ref 1000001), some (.ref 0), some (.ref 270), some (.ref 292), some (.int (nI (5 * t))), l5, l6, l7] [] g I J) := by
  obtain ⟨ad1, ad2, ad3, ad4, ad5⟩ := ads t
  obtain ⟨in1, cl1⟩ := ins (a := 5 * t + 1) (L := L) (by omega) hL
  obtain ⟨in2, cl2⟩ := ins (a := 5 * t + 2) (L := L) (by omega) hL
  have hk1 : hf_k g 1000001 = (6, L) := hI.2.2.2.2.2.1
  have hk2 : hf_k g 292 = (3, 1) := hI.2.2.2.2.2.2.1
  have hx0 : I 1000001 = xs := hI.2.2.2.2.2.2.2
  have hL0 := hI.2.1
  have kc : hf_k g 0 = (0, 9) := hx_k (lay_hx hL0)
  have km : hf_k g 270 = (0, 10) := (lay_md hL0).1
  rcases lwf_sky (i := xs (5 * t + 1)) (j := xs (5 * t + 2)) hI with ⟨σ2, v, I2, J2, I4, J4, hv, hw, hm, ho, h38, hI4, hx⟩ | ⟨σ2, k, w, I2, J2, I4, J4, hv, hk0, hw, hm, h38, hI4, hx⟩
  · obtain ⟨z, rfl⟩ := hv
    have ho2 : J4 292 0 = z.toInt64 := by rw [← ho]; exact ku_same
    try dsimp only at hw
    try dsimp only at hm
    have th := m_thrown (I := I4) (J := J4) (lay_md hL0)
    rw [h38] at th
    simp only [s254_1599, s254_1600, s254_1601, s254_1603, s254_1604, s254_1605, s254_1606, s254_1607, s254_1609, s254_1610, s254_1611, s254_1612, s254_1613, s254_1616, s254_1618, s254_1619, s254_1620, s254_1622, s254_1623, s254_1624, s254_1625, s254_1626, s254_1628, s254_1629, s254_1630, s254_1631, s254_1634, s254_1636, s254_1637, s254_1640, s254_1642, s254_1645, s254_1646, s254_1647, s254_1649, s254_1652, s254_1653, s254_1654, s254_1655, s254_1657, s254_1658, s254_1659, s254_1662, s254_1663, s254_1664, s254_1748, s254_1751, hf_bd_v, hf_bd_n, hf_iv_i, hf_iv_l, hf_iv_a, hf_iv_n, hf_iv_2, z_lgl, z_lgg, z_lge, z_lgle, z_lgz, Option.getD_some, Option.isSome_some, ↓reduceIte, not_true_eq_false, not_false_eq_true, Option.toList_some, Option.toList_none, List.cons_append, List.nil_append, Nat.reduceAdd, Nat.add_assoc, ku_ne, ku_same, ne_eq, Nat.reduceEqDiff, reduceCtorEq, Nat.add_eq_left, Nat.left_eq_add, Nat.reduceEqDiff, q10, q_ne, true_or, or_true, in1, cl1, in2, cl2, ad1, ad2, ad3, ad4, ad5, hk1, hk2, km, kc, hx0, hx, hw, hm, th, ho2, z_o1, z_o2]
    exact hK σ2 g I4 J4 _ _ _ hI4 ⟨Nat.le_succ _, by omega⟩
  · obtain ⟨z, rfl⟩ := hv
    try dsimp only at hw
    try dsimp only at hm
    have th := m_thrown (I := I4) (J := J4) (lay_md hL0.th)
    rw [h38] at th
    simp only [s254_1599, s254_1600, s254_1601, s254_1603, s254_1604, s254_1605, s254_1606, s254_1607, s254_1609, s254_1610, s254_1611, s254_1612, s254_1613, s254_1616, s254_1618, s254_1619, s254_1620, s254_1622, s254_1623, s254_1624, s254_1625, s254_1626, s254_1628, s254_1629, s254_1630, s254_1631, s254_1634, s254_1636, s254_1637, s254_1640, s254_1642, s254_1645, s254_1646, s254_1647, s254_1649, s254_1652, s254_1653, s254_1654, s254_1655, s254_1657, s254_1658, s254_1659, s254_1662, s254_1663, s254_1664, s254_1748, s254_1751, hf_bd_v, hf_bd_n, hf_iv_i, hf_iv_l, hf_iv_a, hf_iv_n, hf_iv_2, z_lgl, z_lgg, z_lge, z_lgle, z_lgz, Option.getD_some, Option.isSome_some, ↓reduceIte, not_true_eq_false, not_false_eq_true, Option.toList_some, Option.toList_none, List.cons_append, List.nil_append, Nat.reduceAdd, Nat.add_assoc, ku_ne, ku_same, ne_eq, Nat.reduceEqDiff, reduceCtorEq, Nat.add_eq_left, Nat.left_eq_add, Nat.reduceEqDiff, q10, q_ne, true_or, or_true, in1, cl1, in2, cl2, ad1, ad2, ad3, ad4, ad5, k_th, hk1, hk2, km, kc, hx0, hx, hw, hm, th, hk0]
    exact hK σ2 (hf_th g) I4 J4 _ _ _ hI4 ⟨Nat.le_refl _, Nat.le_refl _⟩
theorem lc_pairs (hI : LI L xs σ g I J) (ht : 5 * t + 5 ≤ L) (hL : L ≤ 2560) (hK : Cont L xs g t P) : P (hf_rn 254 1667 [some (.ref 1000001), some (.ref 0), some (.ref 270), some (.ref 292), some (.int (nI (5 * t))), l5, l6, l7] [] g I J) := by
  obtain ⟨ad1, ad2, ad3, ad4, ad5⟩ := ads t
  obtain ⟨in1, cl1⟩ := ins (a := 5 * t + 1) (L := L) (by omega) hL
  obtain ⟨in2, cl2⟩ := ins (a := 5 * t + 2) (L := L) (by omega) hL
  have hk1 : hf_k g 1000001 = (6, L) := hI.2.2.2.2.2.1
  have hk2 : hf_k g 292 = (3, 1) := hI.2.2.2.2.2.2.1
  have hx0 : I 1000001 = xs := hI.2.2.2.2.2.2.2
  have hL0 := hI.2.1
  have kc : hf_k g 0 = (0, 9) := hx_k (lay_hx hL0)
  have km : hf_k g 270 = (0, 10) := (lay_md hL0).1
  rcases lwf_pairs (i := xs (5 * t + 1)) (j := xs (5 * t + 2)) hI with ⟨σ2, v, I2, J2, I4, J4, hv, hw, hm, ho, h38, hI4, hx⟩ | ⟨σ2, k, w, I2, J2, I4, J4, hv, hk0, hw, hm, h38, hI4, hx⟩
  · obtain ⟨z, rfl⟩ := hv
    have ho2 : J4 292 0 = z.toInt64 := by rw [← ho]; exact ku_same
    try dsimp only at hw
    try dsimp only at hm
    have th := m_thrown (I := I4) (J := J4) (lay_md hL0)
    rw [h38] at th
    simp only [s254_1667, s254_1668, s254_1669, s254_1671, s254_1672, s254_1673, s254_1674, s254_1675, s254_1677, s254_1678, s254_1679, s254_1680, s254_1681, s254_1684, s254_1686, s254_1687, s254_1688, s254_1690, s254_1691, s254_1692, s254_1693, s254_1694, s254_1696, s254_1697, s254_1698, s254_1699, s254_1702, s254_1704, s254_1705, s254_1708, s254_1710, s254_1713, s254_1714, s254_1715, s254_1717, s254_1720, s254_1721, s254_1722, s254_1723, s254_1725, s254_1726, s254_1727, s254_1730, s254_1731, s254_1732, s254_1748, s254_1751, hf_bd_v, hf_bd_n, hf_iv_i, hf_iv_l, hf_iv_a, hf_iv_n, hf_iv_2, z_lgl, z_lgg, z_lge, z_lgle, z_lgz, Option.getD_some, Option.isSome_some, ↓reduceIte, not_true_eq_false, not_false_eq_true, Option.toList_some, Option.toList_none, List.cons_append, List.nil_append, Nat.reduceAdd, Nat.add_assoc, ku_ne, ku_same, ne_eq, Nat.reduceEqDiff, reduceCtorEq, Nat.add_eq_left, Nat.left_eq_add, Nat.reduceEqDiff, q10, q_ne, true_or, or_true, in1, cl1, in2, cl2, ad1, ad2, ad3, ad4, ad5, hk1, hk2, km, kc, hx0, hx, hw, hm, th, ho2, z_o1, z_o2]
    exact hK σ2 g I4 J4 _ _ _ hI4 ⟨Nat.le_succ _, by omega⟩
  · obtain ⟨z, rfl⟩ := hv
    try dsimp only at hw
    try dsimp only at hm
    have th := m_thrown (I := I4) (J := J4) (lay_md hL0.th)
    rw [h38] at th
    simp only [s254_1667, s254_1668, s254_1669, s254_1671, s254_1672, s254_1673, s254_1674, s254_1675, s254_1677, s254_1678, s254_1679, s254_1680, s254_1681, s254_1684, s254_1686, s254_1687, s254_1688, s254_1690, s254_1691, s254_1692, s254_1693, s254_1694, s254_1696, s254_1697, s254_1698, s254_1699, s254_1702, s254_1704, s254_1705, s254_1708, s254_1710, s254_1713, s254_1714, s254_1715, s254_1717, s254_1720, s254_1721, s254_1722, s254_1723, s254_1725, s254_1726, s254_1727, s254_1730, s254_1731, s254_1732, s254_1748, s254_1751, hf_bd_v, hf_bd_n, hf_iv_i, hf_iv_l, hf_iv_a, hf_iv_n, hf_iv_2, z_lgl, z_lgg, z_lge, z_lgle, z_lgz, Option.getD_some, Option.isSome_some, ↓reduceIte, not_true_eq_false, not_false_eq_true, Option.toList_some, Option.toList_none, List.cons_append, List.nil_append, Nat.reduceAdd, Nat.add_assoc, ku_ne, ku_same, ne_eq, Nat.reduceEqDiff, reduceCtorEq, Nat.add_eq_left, Nat.left_eq_add, Nat.reduceEqDiff, q10, q_ne, true_or, or_true, in1, cl1, in2, cl2, ad1, ad2, ad3, ad4, ad5, k_th, hk1, hk2, km, kc, hx0, hx, hw, hm, th, hk0]
    exact hK σ2 (hf_th g) I4 J4 _ _ _ hI4 ⟨Nat.le_refl _, Nat.le_refl _⟩
theorem lc_forceX (hI : LI L xs σ g I J) (ht : 5 * t + 5 ≤ L) (hL : L ≤ 2560) (hK : Cont L xs g t P) (hb2 : ¬ xs (5 * t + 2) = 0) (hb3 : xs (5 * t + 3) = 0) : P (hf_rn 254 483 [some (.ref 1000001), some (.ref 0), some (.ref 270), some (.ref 292), some (.int (nI (5 * t))), l5, l6, l7] [] g I J) := by
  obtain ⟨ad1, ad2, ad3, ad4, ad5⟩ := ads t
  obtain ⟨in1, cl1⟩ := ins (a := 5 * t + 1) (L := L) (by omega) hL
  obtain ⟨in2, cl2⟩ := ins (a := 5 * t + 2) (L := L) (by omega) hL
  obtain ⟨in3, cl3⟩ := ins (a := 5 * t + 3) (L := L) (by omega) hL
  have hk1 : hf_k g 1000001 = (6, L) := hI.2.2.2.2.2.1
  have hk2 : hf_k g 292 = (3, 1) := hI.2.2.2.2.2.2.1
  have hx0 : I 1000001 = xs := hI.2.2.2.2.2.2.2
  have hL0 := hI.2.1
  have kc : hf_k g 0 = (0, 9) := hx_k (lay_hx hL0)
  have km : hf_k g 270 = (0, 10) := (lay_md hL0).1
  rcases lwf_forceX (i := xs (5 * t + 1)) hI with ⟨σ2, v, I2, J2, I4, J4, hv, hw, hm, ho, h38, hI4, hx⟩ | ⟨σ2, k, w, I2, J2, I4, J4, hv, hk0, hw, hm, h38, hI4, hx⟩
  · obtain ⟨z, rfl⟩ := hv
    have ho2 : J4 292 0 = z := by rw [← ho]; exact ku_same
    try dsimp only at hw
    try dsimp only at hm
    have th := m_thrown (I := I4) (J := J4) (lay_md hL0)
    rw [h38] at th
    simp only [s254_483, s254_484, s254_485, s254_487, s254_488, s254_489, s254_490, s254_491, s254_493, s254_494, s254_495, s254_496, s254_499, s254_500, s254_503, s254_504, s254_505, s254_507, s254_508, s254_509, s254_510, s254_513, s254_514, s254_517, s254_518, s254_519, s254_522, s254_524, s254_525, s254_526, s254_528, s254_529, s254_530, s254_531, s254_532, s254_534, s254_535, s254_536, s254_537, s254_540, s254_541, s254_544, s254_545, s254_546, s254_548, s254_549, s254_550, s254_551, s254_554, s254_555, s254_558, s254_559, s254_562, s254_564, s254_565, s254_568, s254_570, s254_573, s254_574, s254_575, s254_577, s254_580, s254_581, s254_582, s254_583, s254_585, s254_586, s254_589, s254_590, s254_591, s254_1748, s254_1751, hf_bd_v, hf_bd_n, hf_iv_i, hf_iv_l, hf_iv_a, hf_iv_n, hf_iv_2, z_lgl, z_lgg, z_lge, z_lgle, z_lgz, Option.getD_some, Option.isSome_some, ↓reduceIte, not_true_eq_false, not_false_eq_true, Option.toList_some, Option.toList_none, List.cons_append, List.nil_append, Nat.reduceAdd, Nat.add_assoc, ku_ne, ku_same, ne_eq, Nat.reduceEqDiff, reduceCtorEq, Nat.add_eq_left, Nat.left_eq_add, Nat.reduceEqDiff, q10, q_ne, true_or, or_true, in1, cl1, in2, cl2, in3, cl3, ad1, ad2, ad3, ad4, ad5, hk1, hk2, km, kc, hx0, hx, hw, hm, th, ho2, z_o1, z_o2, hb2, hb3]
    exact hK σ2 g I4 J4 _ _ _ hI4 ⟨Nat.le_succ _, by omega⟩
  · obtain ⟨z, rfl⟩ := hv
    try dsimp only at hw
    try dsimp only at hm
    have th := m_thrown (I := I4) (J := J4) (lay_md hL0.th)
    rw [h38] at th
    simp only [s254_483, s254_484, s254_485, s254_487, s254_488, s254_489, s254_490, s254_491, s254_493, s254_494, s254_495, s254_496, s254_499, s254_500, s254_503, s254_504, s254_505, s254_507, s254_508, s254_509, s254_510, s254_513, s254_514, s254_517, s254_518, s254_519, s254_522, s254_524, s254_525, s254_526, s254_528, s254_529, s254_530, s254_531, s254_532, s254_534, s254_535, s254_536, s254_537, s254_540, s254_541, s254_544, s254_545, s254_546, s254_548, s254_549, s254_550, s254_551, s254_554, s254_555, s254_558, s254_559, s254_562, s254_564, s254_565, s254_568, s254_570, s254_573, s254_574, s254_575, s254_577, s254_580, s254_581, s254_582, s254_583, s254_585, s254_586, s254_589, s254_590, s254_591, s254_1748, s254_1751, hf_bd_v, hf_bd_n, hf_iv_i, hf_iv_l, hf_iv_a, hf_iv_n, hf_iv_2, z_lgl, z_lgg, z_lge, z_lgle, z_lgz, Option.getD_some, Option.isSome_some, ↓reduceIte, not_true_eq_false, not_false_eq_true, Option.toList_some, Option.toList_none, List.cons_append, List.nil_append, Nat.reduceAdd, Nat.add_assoc, ku_ne, ku_same, ne_eq, Nat.reduceEqDiff, reduceCtorEq, Nat.add_eq_left, Nat.left_eq_add, Nat.reduceEqDiff, q10, q_ne, true_or, or_true, in1, cl1, in2, cl2, in3, cl3, ad1, ad2, ad3, ad4, ad5, k_th, hk1, hk2, km, kc, hx0, hx, hw, hm, th, hk0, hb2, hb3]
    exact hK σ2 (hf_th g) I4 J4 _ _ _ hI4 ⟨Nat.le_refl _, Nat.le_refl _⟩
theorem lc_forceY (hI : LI L xs σ g I J) (ht : 5 * t + 5 ≤ L) (hL : L ≤ 2560) (hK : Cont L xs g t P) (hb2 : xs (5 * t + 2) = 0) (hb3 : xs (5 * t + 3) = 0) : P (hf_rn 254 483 [some (.ref 1000001), some (.ref 0), some (.ref 270), some (.ref 292), some (.int (nI (5 * t))), l5, l6, l7] [] g I J) := by
  obtain ⟨ad1, ad2, ad3, ad4, ad5⟩ := ads t
  obtain ⟨in1, cl1⟩ := ins (a := 5 * t + 1) (L := L) (by omega) hL
  obtain ⟨in2, cl2⟩ := ins (a := 5 * t + 2) (L := L) (by omega) hL
  obtain ⟨in3, cl3⟩ := ins (a := 5 * t + 3) (L := L) (by omega) hL
  have hk1 : hf_k g 1000001 = (6, L) := hI.2.2.2.2.2.1
  have hk2 : hf_k g 292 = (3, 1) := hI.2.2.2.2.2.2.1
  have hx0 : I 1000001 = xs := hI.2.2.2.2.2.2.2
  have hL0 := hI.2.1
  have kc : hf_k g 0 = (0, 9) := hx_k (lay_hx hL0)
  have km : hf_k g 270 = (0, 10) := (lay_md hL0).1
  rcases lwf_forceY (i := xs (5 * t + 1)) hI with ⟨σ2, v, I2, J2, I4, J4, hv, hw, hm, ho, h38, hI4, hx⟩ | ⟨σ2, k, w, I2, J2, I4, J4, hv, hk0, hw, hm, h38, hI4, hx⟩
  · obtain ⟨z, rfl⟩ := hv
    have ho2 : J4 292 0 = z := by rw [← ho]; exact ku_same
    try dsimp only at hw
    try dsimp only at hm
    have th := m_thrown (I := I4) (J := J4) (lay_md hL0)
    rw [h38] at th
    simp only [s254_483, s254_484, s254_485, s254_487, s254_488, s254_489, s254_490, s254_491, s254_493, s254_494, s254_495, s254_496, s254_499, s254_500, s254_503, s254_504, s254_505, s254_507, s254_508, s254_509, s254_510, s254_513, s254_514, s254_517, s254_518, s254_519, s254_522, s254_524, s254_525, s254_526, s254_528, s254_529, s254_530, s254_531, s254_532, s254_534, s254_535, s254_536, s254_537, s254_540, s254_541, s254_544, s254_545, s254_546, s254_548, s254_549, s254_550, s254_551, s254_554, s254_555, s254_558, s254_559, s254_562, s254_564, s254_565, s254_568, s254_570, s254_573, s254_574, s254_575, s254_577, s254_580, s254_581, s254_582, s254_583, s254_585, s254_586, s254_589, s254_590, s254_591, s254_1748, s254_1751, hf_bd_v, hf_bd_n, hf_iv_i, hf_iv_l, hf_iv_a, hf_iv_n, hf_iv_2, z_lgl, z_lgg, z_lge, z_lgle, z_lgz, Option.getD_some, Option.isSome_some, ↓reduceIte, not_true_eq_false, not_false_eq_true, Option.toList_some, Option.toList_none, List.cons_append, List.nil_append, Nat.reduceAdd, Nat.add_assoc, ku_ne, ku_same, ne_eq, Nat.reduceEqDiff, reduceCtorEq, Nat.add_eq_left, Nat.left_eq_add, Nat.reduceEqDiff, q10, q_ne, true_or, or_true, in1, cl1, in2, cl2, in3, cl3, ad1, ad2, ad3, ad4, ad5, hk1, hk2, km, kc, hx0, hx, hw, hm, th, ho2, z_o1, z_o2, hb2, hb3]
    exact hK σ2 g I4 J4 _ _ _ hI4 ⟨Nat.le_succ _, by omega⟩
  · obtain ⟨z, rfl⟩ := hv
    try dsimp only at hw
    try dsimp only at hm
    have th := m_thrown (I := I4) (J := J4) (lay_md hL0.th)
    rw [h38] at th
    simp only [s254_483, s254_484, s254_485, s254_487, s254_488, s254_489, s254_490, s254_491, s254_493, s254_494, s254_495, s254_496, s254_499, s254_500, s254_503, s254_504, s254_505, s254_507, s254_508, s254_509, s254_510, s254_513, s254_514, s254_517, s254_518, s254_519, s254_522, s254_524, s254_525, s254_526, s254_528, s254_529, s254_530, s254_531, s254_532, s254_534, s254_535, s254_536, s254_537, s254_540, s254_541, s254_544, s254_545, s254_546, s254_548, s254_549, s254_550, s254_551, s254_554, s254_555, s254_558, s254_559, s254_562, s254_564, s254_565, s254_568, s254_570, s254_573, s254_574, s254_575, s254_577, s254_580, s254_581, s254_582, s254_583, s254_585, s254_586, s254_589, s254_590, s254_591, s254_1748, s254_1751, hf_bd_v, hf_bd_n, hf_iv_i, hf_iv_l, hf_iv_a, hf_iv_n, hf_iv_2, z_lgl, z_lgg, z_lge, z_lgle, z_lgz, Option.getD_some, Option.isSome_some, ↓reduceIte, not_true_eq_false, not_false_eq_true, Option.toList_some, Option.toList_none, List.cons_append, List.nil_append, Nat.reduceAdd, Nat.add_assoc, ku_ne, ku_same, ne_eq, Nat.reduceEqDiff, reduceCtorEq, Nat.add_eq_left, Nat.left_eq_add, Nat.reduceEqDiff, q10, q_ne, true_or, or_true, in1, cl1, in2, cl2, in3, cl3, ad1, ad2, ad3, ad4, ad5, k_th, hk1, hk2, km, kc, hx0, hx, hw, hm, th, hk0, hb2, hb3]
    exact hK σ2 (hf_th g) I4 J4 _ _ _ hI4 ⟨Nat.le_refl _, Nat.le_refl _⟩
theorem lc_forceCX (hI : LI L xs σ g I J) (ht : 5 * t + 5 ≤ L) (hL : L ≤ 2560) (hK : Cont L xs g t P) (hb2 : ¬ xs (5 * t + 2) = 0) (hb3 : ¬ xs (5 * t + 3) = 0) : P (hf_rn 254 483 [some (.ref 1000001), some (.ref 0), some (.ref 270), some (.ref 292), some (.int (nI (5 * t))), l5, l6, l7] [] g I J) := by
  obtain ⟨ad1, ad2, ad3, ad4, ad5⟩ := ads t
  obtain ⟨in1, cl1⟩ := ins (a := 5 * t + 1) (L := L) (by omega) hL
  obtain ⟨in2, cl2⟩ := ins (a := 5 * t + 2) (L := L) (by omega) hL
  obtain ⟨in3, cl3⟩ := ins (a := 5 * t + 3) (L := L) (by omega) hL
  have hk1 : hf_k g 1000001 = (6, L) := hI.2.2.2.2.2.1
  have hk2 : hf_k g 292 = (3, 1) := hI.2.2.2.2.2.2.1
  have hx0 : I 1000001 = xs := hI.2.2.2.2.2.2.2
  have hL0 := hI.2.1
  have kc : hf_k g 0 = (0, 9) := hx_k (lay_hx hL0)
  have km : hf_k g 270 = (0, 10) := (lay_md hL0).1
  rcases lwf_forceCX (i := xs (5 * t + 1)) hI with ⟨σ2, v, I2, J2, I4, J4, hv, hw, hm, ho, h38, hI4, hx⟩ | ⟨σ2, k, w, I2, J2, I4, J4, hv, hk0, hw, hm, h38, hI4, hx⟩
  · obtain ⟨z, rfl⟩ := hv
    have ho2 : J4 292 0 = z := by rw [← ho]; exact ku_same
    try dsimp only at hw
    try dsimp only at hm
    have th := m_thrown (I := I4) (J := J4) (lay_md hL0)
    rw [h38] at th
    simp only [s254_483, s254_484, s254_485, s254_487, s254_488, s254_489, s254_490, s254_491, s254_493, s254_494, s254_495, s254_496, s254_499, s254_500, s254_503, s254_504, s254_505, s254_507, s254_508, s254_509, s254_510, s254_513, s254_514, s254_517, s254_518, s254_519, s254_522, s254_524, s254_525, s254_526, s254_528, s254_529, s254_530, s254_531, s254_532, s254_534, s254_535, s254_536, s254_537, s254_540, s254_541, s254_544, s254_545, s254_546, s254_548, s254_549, s254_550, s254_551, s254_554, s254_555, s254_558, s254_559, s254_562, s254_564, s254_565, s254_568, s254_570, s254_573, s254_574, s254_575, s254_577, s254_580, s254_581, s254_582, s254_583, s254_585, s254_586, s254_589, s254_590, s254_591, s254_1748, s254_1751, hf_bd_v, hf_bd_n, hf_iv_i, hf_iv_l, hf_iv_a, hf_iv_n, hf_iv_2, z_lgl, z_lgg, z_lge, z_lgle, z_lgz, Option.getD_some, Option.isSome_some, ↓reduceIte, not_true_eq_false, not_false_eq_true, Option.toList_some, Option.toList_none, List.cons_append, List.nil_append, Nat.reduceAdd, Nat.add_assoc, ku_ne, ku_same, ne_eq, Nat.reduceEqDiff, reduceCtorEq, Nat.add_eq_left, Nat.left_eq_add, Nat.reduceEqDiff, q10, q_ne, true_or, or_true, in1, cl1, in2, cl2, in3, cl3, ad1, ad2, ad3, ad4, ad5, hk1, hk2, km, kc, hx0, hx, hw, hm, th, ho2, z_o1, z_o2, hb2, hb3]
    exact hK σ2 g I4 J4 _ _ _ hI4 ⟨Nat.le_succ _, by omega⟩
  · obtain ⟨z, rfl⟩ := hv
    try dsimp only at hw
    try dsimp only at hm
    have th := m_thrown (I := I4) (J := J4) (lay_md hL0.th)
    rw [h38] at th
    simp only [s254_483, s254_484, s254_485, s254_487, s254_488, s254_489, s254_490, s254_491, s254_493, s254_494, s254_495, s254_496, s254_499, s254_500, s254_503, s254_504, s254_505, s254_507, s254_508, s254_509, s254_510, s254_513, s254_514, s254_517, s254_518, s254_519, s254_522, s254_524, s254_525, s254_526, s254_528, s254_529, s254_530, s254_531, s254_532, s254_534, s254_535, s254_536, s254_537, s254_540, s254_541, s254_544, s254_545, s254_546, s254_548, s254_549, s254_550, s254_551, s254_554, s254_555, s254_558, s254_559, s254_562, s254_564, s254_565, s254_568, s254_570, s254_573, s254_574, s254_575, s254_577, s254_580, s254_581, s254_582, s254_583, s254_585, s254_586, s254_589, s254_590, s254_591, s254_1748, s254_1751, hf_bd_v, hf_bd_n, hf_iv_i, hf_iv_l, hf_iv_a, hf_iv_n, hf_iv_2, z_lgl, z_lgg, z_lge, z_lgle, z_lgz, Option.getD_some, Option.isSome_some, ↓reduceIte, not_true_eq_false, not_false_eq_true, Option.toList_some, Option.toList_none, List.cons_append, List.nil_append, Nat.reduceAdd, Nat.add_assoc, ku_ne, ku_same, ne_eq, Nat.reduceEqDiff, reduceCtorEq, Nat.add_eq_left, Nat.left_eq_add, Nat.reduceEqDiff, q10, q_ne, true_or, or_true, in1, cl1, in2, cl2, in3, cl3, ad1, ad2, ad3, ad4, ad5, k_th, hk1, hk2, km, kc, hx0, hx, hw, hm, th, hk0, hb2, hb3]
    exact hK σ2 (hf_th g) I4 J4 _ _ _ hI4 ⟨Nat.le_refl _, Nat.le_refl _⟩
theorem lc_forceCY (hI : LI L xs σ g I J) (ht : 5 * t + 5 ≤ L) (hL : L ≤ 2560) (hK : Cont L xs g t P) (hb2 : xs (5 * t + 2) = 0) (hb3 : ¬ xs (5 * t + 3) = 0) : P (hf_rn 254 483 [some (.ref 1000001), some (.ref 0), some (.ref 270), some (.ref 292), some (.int (nI (5 * t))), l5, l6, l7] [] g I J) := by
  obtain ⟨ad1, ad2, ad3, ad4, ad5⟩ := ads t
  obtain ⟨in1, cl1⟩ := ins (a := 5 * t + 1) (L := L) (by omega) hL
  obtain ⟨in2, cl2⟩ := ins (a := 5 * t + 2) (L := L) (by omega) hL
  obtain ⟨in3, cl3⟩ := ins (a := 5 * t + 3) (L := L) (by omega) hL
  have hk1 : hf_k g 1000001 = (6, L) := hI.2.2.2.2.2.1
  have hk2 : hf_k g 292 = (3, 1) := hI.2.2.2.2.2.2.1
  have hx0 : I 1000001 = xs := hI.2.2.2.2.2.2.2
  have hL0 := hI.2.1
  have kc : hf_k g 0 = (0, 9) := hx_k (lay_hx hL0)
  have km : hf_k g 270 = (0, 10) := (lay_md hL0).1
  rcases lwf_forceCY (i := xs (5 * t + 1)) hI with ⟨σ2, v, I2, J2, I4, J4, hv, hw, hm, ho, h38, hI4, hx⟩ | ⟨σ2, k, w, I2, J2, I4, J4, hv, hk0, hw, hm, h38, hI4, hx⟩
  · obtain ⟨z, rfl⟩ := hv
    have ho2 : J4 292 0 = z := by rw [← ho]; exact ku_same
    try dsimp only at hw
    try dsimp only at hm
    have th := m_thrown (I := I4) (J := J4) (lay_md hL0)
    rw [h38] at th
    simp only [s254_483, s254_484, s254_485, s254_487, s254_488, s254_489, s254_490, s254_491, s254_493, s254_494, s254_495, s254_496, s254_499, s254_500, s254_503, s254_504, s254_505, s254_507, s254_508, s254_509, s254_510, s254_513, s254_514, s254_517, s254_518, s254_519, s254_522, s254_524, s254_525, s254_526, s254_528, s254_529, s254_530, s254_531, s254_532, s254_534, s254_535, s254_536, s254_537, s254_540, s254_541, s254_544, s254_545, s254_546, s254_548, s254_549, s254_550, s254_551, s254_554, s254_555, s254_558, s254_559, s254_562, s254_564, s254_565, s254_568, s254_570, s254_573, s254_574, s254_575, s254_577, s254_580, s254_581, s254_582, s254_583, s254_585, s254_586, s254_589, s254_590, s254_591, s254_1748, s254_1751, hf_bd_v, hf_bd_n, hf_iv_i, hf_iv_l, hf_iv_a, hf_iv_n, hf_iv_2, z_lgl, z_lgg, z_lge, z_lgle, z_lgz, Option.getD_some, Option.isSome_some, ↓reduceIte, not_true_eq_false, not_false_eq_true, Option.toList_some, Option.toList_none, List.cons_append, List.nil_append, Nat.reduceAdd, Nat.add_assoc, ku_ne, ku_same, ne_eq, Nat.reduceEqDiff, reduceCtorEq, Nat.add_eq_left, Nat.left_eq_add, Nat.reduceEqDiff, q10, q_ne, true_or, or_true, in1, cl1, in2, cl2, in3, cl3, ad1, ad2, ad3, ad4, ad5, hk1, hk2, km, kc, hx0, hx, hw, hm, th, ho2, z_o1, z_o2, hb2, hb3]
    exact hK σ2 g I4 J4 _ _ _ hI4 ⟨Nat.le_succ _, by omega⟩
  · obtain ⟨z, rfl⟩ := hv
    try dsimp only at hw
    try dsimp only at hm
    have th := m_thrown (I := I4) (J := J4) (lay_md hL0.th)
    rw [h38] at th
    simp only [s254_483, s254_484, s254_485, s254_487, s254_488, s254_489, s254_490, s254_491, s254_493, s254_494, s254_495, s254_496, s254_499, s254_500, s254_503, s254_504, s254_505, s254_507, s254_508, s254_509, s254_510, s254_513, s254_514, s254_517, s254_518, s254_519, s254_522, s254_524, s254_525, s254_526, s254_528, s254_529, s254_530, s254_531, s254_532, s254_534, s254_535, s254_536, s254_537, s254_540, s254_541, s254_544, s254_545, s254_546, s254_548, s254_549, s254_550, s254_551, s254_554, s254_555, s254_558, s254_559, s254_562, s254_564, s254_565, s254_568, s254_570, s254_573, s254_574, s254_575, s254_577, s254_580, s254_581, s254_582, s254_583, s254_585, s254_586, s254_589, s254_590, s254_591, s254_1748, s254_1751, hf_bd_v, hf_bd_n, hf_iv_i, hf_iv_l, hf_iv_a, hf_iv_n, hf_iv_2, z_lgl, z_lgg, z_lge, z_lgle, z_lgz, Option.getD_some, Option.isSome_some, ↓reduceIte, not_true_eq_false, not_false_eq_true, Option.toList_some, Option.toList_none, List.cons_append, List.nil_append, Nat.reduceAdd, Nat.add_assoc, ku_ne, ku_same, ne_eq, Nat.reduceEqDiff, reduceCtorEq, Nat.add_eq_left, Nat.left_eq_add, Nat.reduceEqDiff, q10, q_ne, true_or, or_true, in1, cl1, in2, cl2, in3, cl3, ad1, ad2, ad3, ad4, ad5, k_th, hk1, hk2, km, kc, hx0, hx, hw, hm, th, hk0, hb2, hb3]
    exact hK σ2 (hf_th g) I4 J4 _ _ _ hI4 ⟨Nat.le_refl _, Nat.le_refl _⟩
theorem lc_momX (hI : LI L xs σ g I J) (ht : 5 * t + 5 ≤ L) (hL : L ≤ 2560) (hK : Cont L xs g t P) (hb1 : ¬ xs (5 * t + 1) = 0) : P (hf_rn 254 650 [some (.ref 1000001), some (.ref 0), some (.ref 270), some (.ref 292), some (.int (nI (5 * t))), l5, l6, l7] [] g I J) := by
  obtain ⟨ad1, ad2, ad3, ad4, ad5⟩ := ads t
  obtain ⟨in1, cl1⟩ := ins (a := 5 * t + 1) (L := L) (by omega) hL
  have hk1 : hf_k g 1000001 = (6, L) := hI.2.2.2.2.2.1
  have hx0 : I 1000001 = xs := hI.2.2.2.2.2.2.2
  have hL0 := hI.2.1
  have kc : hf_k g 0 = (0, 9) := hx_k (lay_hx hL0)
  have km : hf_k g 270 = (0, 10) := (lay_md hL0).1
  obtain ⟨σ2, v, I2, J2, I4, J4, hv, hw, hm, hI4, hx⟩ := lv2_of (agr_momX hI.1) hI
  obtain ⟨z, rfl⟩ := hv
  try dsimp only at hw
  try dsimp only at hm
  simp only [s254_650, s254_651, s254_652, s254_654, s254_655, s254_656, s254_657, s254_660, s254_661, s254_664, s254_665, s254_668, s254_669, s254_670, s254_672, s254_673, s254_674, s254_675, s254_678, s254_679, s254_682, s254_683, s254_686, s254_687, s254_690, s254_691, s254_1748, s254_1751, hf_bd_v, hf_bd_n, hf_iv_i, hf_iv_l, hf_iv_a, hf_iv_n, hf_iv_2, z_lgl, z_lgg, z_lge, z_lgle, z_lgz, Option.getD_some, Option.isSome_some, ↓reduceIte, not_true_eq_false, not_false_eq_true, Option.toList_some, Option.toList_none, List.cons_append, List.nil_append, Nat.reduceAdd, Nat.add_assoc, ku_ne, ku_same, ne_eq, Nat.reduceEqDiff, reduceCtorEq, Nat.add_eq_left, Nat.left_eq_add, Nat.reduceEqDiff, q10, q_ne, true_or, or_true, in1, cl1, ad1, ad5, hk1, km, kc, hx0, hx, hw, hm, hb1]
  exact hK σ2 g I4 J4 _ _ _ hI4 ⟨Nat.le_succ _, by omega⟩
theorem lc_momY (hI : LI L xs σ g I J) (ht : 5 * t + 5 ≤ L) (hL : L ≤ 2560) (hK : Cont L xs g t P) (hb1 : xs (5 * t + 1) = 0) : P (hf_rn 254 650 [some (.ref 1000001), some (.ref 0), some (.ref 270), some (.ref 292), some (.int (nI (5 * t))), l5, l6, l7] [] g I J) := by
  obtain ⟨ad1, ad2, ad3, ad4, ad5⟩ := ads t
  obtain ⟨in1, cl1⟩ := ins (a := 5 * t + 1) (L := L) (by omega) hL
  have hk1 : hf_k g 1000001 = (6, L) := hI.2.2.2.2.2.1
  have hx0 : I 1000001 = xs := hI.2.2.2.2.2.2.2
  have hL0 := hI.2.1
  have kc : hf_k g 0 = (0, 9) := hx_k (lay_hx hL0)
  have km : hf_k g 270 = (0, 10) := (lay_md hL0).1
  obtain ⟨σ2, v, I2, J2, I4, J4, hv, hw, hm, hI4, hx⟩ := lv2_of (agr_momY hI.1) hI
  obtain ⟨z, rfl⟩ := hv
  try dsimp only at hw
  try dsimp only at hm
  simp only [s254_650, s254_651, s254_652, s254_654, s254_655, s254_656, s254_657, s254_660, s254_661, s254_664, s254_665, s254_668, s254_669, s254_670, s254_672, s254_673, s254_674, s254_675, s254_678, s254_679, s254_682, s254_683, s254_686, s254_687, s254_690, s254_691, s254_1748, s254_1751, hf_bd_v, hf_bd_n, hf_iv_i, hf_iv_l, hf_iv_a, hf_iv_n, hf_iv_2, z_lgl, z_lgg, z_lge, z_lgle, z_lgz, Option.getD_some, Option.isSome_some, ↓reduceIte, not_true_eq_false, not_false_eq_true, Option.toList_some, Option.toList_none, List.cons_append, List.nil_append, Nat.reduceAdd, Nat.add_assoc, ku_ne, ku_same, ne_eq, Nat.reduceEqDiff, reduceCtorEq, Nat.add_eq_left, Nat.left_eq_add, Nat.reduceEqDiff, q10, q_ne, true_or, or_true, in1, cl1, ad1, ad5, hk1, km, kc, hx0, hx, hw, hm, hb1]
  exact hK σ2 g I4 J4 _ _ _ hI4 ⟨Nat.le_succ _, by omega⟩
theorem lc_kept (hI : LI L xs σ g I J) (ht : 5 * t + 5 ≤ L) (hL : L ≤ 2560) (hK : Cont L xs g t P) : P (hf_rn 254 1465 [some (.ref 1000001), some (.ref 0), some (.ref 270), some (.ref 292), some (.int (nI (5 * t))), l5, l6, l7] [] g I J) := by
  obtain ⟨ad1, ad2, ad3, ad4, ad5⟩ := ads t
  have hk1 : hf_k g 1000001 = (6, L) := hI.2.2.2.2.2.1
  have hx0 : I 1000001 = xs := hI.2.2.2.2.2.2.2
  have hL0 := hI.2.1
  have kc : hf_k g 0 = (0, 9) := hx_k (lay_hx hL0)
  have km : hf_k g 270 = (0, 10) := (lay_md hL0).1
  obtain ⟨σ2, v, I2, J2, I4, J4, hv, hw, hm, hI4, hx⟩ := lv2_of (agr_kept hI.1) hI
  obtain ⟨z, rfl⟩ := hv
  try dsimp only at hw
  try dsimp only at hm
  simp only [s254_1465, s254_1466, s254_1469, s254_1470, s254_1473, s254_1476, s254_1477, s254_1748, s254_1751, hf_bd_v, hf_bd_n, hf_iv_i, hf_iv_l, hf_iv_a, hf_iv_n, hf_iv_2, z_lgl, z_lgg, z_lge, z_lgle, z_lgz, Option.getD_some, Option.isSome_some, ↓reduceIte, not_true_eq_false, not_false_eq_true, Option.toList_some, Option.toList_none, List.cons_append, List.nil_append, Nat.reduceAdd, Nat.add_assoc, ku_ne, ku_same, ne_eq, Nat.reduceEqDiff, reduceCtorEq, Nat.add_eq_left, Nat.left_eq_add, Nat.reduceEqDiff, q10, q_ne, true_or, or_true, ad1, ad5, hk1, km, kc, hx0, hx, hw, hm]
  exact hK σ2 g I4 J4 _ _ _ hI4 ⟨Nat.le_succ _, by omega⟩
theorem lc_seen (hI : LI L xs σ g I J) (ht : 5 * t + 5 ≤ L) (hL : L ≤ 2560) (hK : Cont L xs g t P) : P (hf_rn 254 1586 [some (.ref 1000001), some (.ref 0), some (.ref 270), some (.ref 292), some (.int (nI (5 * t))), l5, l6, l7] [] g I J) := by
  obtain ⟨ad1, ad2, ad3, ad4, ad5⟩ := ads t
  have hk1 : hf_k g 1000001 = (6, L) := hI.2.2.2.2.2.1
  have hx0 : I 1000001 = xs := hI.2.2.2.2.2.2.2
  have hL0 := hI.2.1
  have kc : hf_k g 0 = (0, 9) := hx_k (lay_hx hL0)
  have km : hf_k g 270 = (0, 10) := (lay_md hL0).1
  obtain ⟨σ2, v, I2, J2, I4, J4, hv, hw, hm, hI4, hx⟩ := lv2_of (agr_seen hI.1) hI
  obtain ⟨z, rfl⟩ := hv
  try dsimp only at hw
  try dsimp only at hm
  simp only [s254_1586, s254_1587, s254_1590, s254_1591, s254_1594, s254_1597, s254_1598, s254_1748, s254_1751, hf_bd_v, hf_bd_n, hf_iv_i, hf_iv_l, hf_iv_a, hf_iv_n, hf_iv_2, z_lgl, z_lgg, z_lge, z_lgle, z_lgz, Option.getD_some, Option.isSome_some, ↓reduceIte, not_true_eq_false, not_false_eq_true, Option.toList_some, Option.toList_none, List.cons_append, List.nil_append, Nat.reduceAdd, Nat.add_assoc, ku_ne, ku_same, ne_eq, Nat.reduceEqDiff, reduceCtorEq, Nat.add_eq_left, Nat.left_eq_add, Nat.reduceEqDiff, q10, q_ne, true_or, or_true, ad1, ad5, hk1, km, kc, hx0, hx, hw, hm]
  exact hK σ2 g I4 J4 _ _ _ hI4 ⟨Nat.le_succ _, by omega⟩
theorem lc_voidCells (hI : LI L xs σ g I J) (ht : 5 * t + 5 ≤ L) (hL : L ≤ 2560) (hK : Cont L xs g t P) : P (hf_rn 254 1735 [some (.ref 1000001), some (.ref 0), some (.ref 270), some (.ref 292), some (.int (nI (5 * t))), l5, l6, l7] [] g I J) := by
  obtain ⟨ad1, ad2, ad3, ad4, ad5⟩ := ads t
  have hk1 : hf_k g 1000001 = (6, L) := hI.2.2.2.2.2.1
  have hx0 : I 1000001 = xs := hI.2.2.2.2.2.2.2
  have hL0 := hI.2.1
  have kc : hf_k g 0 = (0, 9) := hx_k (lay_hx hL0)
  have km : hf_k g 270 = (0, 10) := (lay_md hL0).1
  obtain ⟨σ2, v, I2, J2, I4, J4, hv, hw, hm, hI4, hx⟩ := lv2_of (agr_voidCells hI.1) hI
  obtain ⟨z, rfl⟩ := hv
  try dsimp only at hw
  try dsimp only at hm
  simp only [s254_1735, s254_1736, s254_1739, s254_1740, s254_1743, s254_1746, s254_1747, s254_1748, s254_1751, hf_bd_v, hf_bd_n, hf_iv_i, hf_iv_l, hf_iv_a, hf_iv_n, hf_iv_2, z_lgl, z_lgg, z_lge, z_lgle, z_lgz, Option.getD_some, Option.isSome_some, ↓reduceIte, not_true_eq_false, not_false_eq_true, Option.toList_some, Option.toList_none, List.cons_append, List.nil_append, Nat.reduceAdd, Nat.add_assoc, ku_ne, ku_same, ne_eq, Nat.reduceEqDiff, reduceCtorEq, Nat.add_eq_left, Nat.left_eq_add, Nat.reduceEqDiff, q10, q_ne, true_or, or_true, ad1, ad5, hk1, km, kc, hx0, hx, hw, hm]
  exact hK σ2 g I4 J4 _ _ _ hI4 ⟨Nat.le_succ _, by omega⟩
end
