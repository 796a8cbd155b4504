/-! VOIDS ON BOTH SIDES -/
section
variable {v e f l : Int64} {x y k n c t m a b : Nat} {E : Nat → Bool} {M : Nat → Nat} {O : Nat → Int32} {vc : Nat → Nat} {σ : Sg} {I : hf_I} {J : hf_J} {g : hf_G} {p : Int64 × Int32}
theorem bt_shl8 (hx : x < 64) : btL (shlL v 8) x = (decide (8 ≤ x) && btL v (x - 8)) := by
  have h1 : (shlL v 8).toBitVec = v.toBitVec <<< (8 : Nat) := rfl
  rw [bt_eq hx, bt_eq (by omega), h1, BitVec.getLsbD_shiftLeft, decide_eq_true hx]
  by_cases c : 8 ≤ x
  · rw [decide_eq_true c, decide_eq_false (show ¬ x < 8 by omega)]; rfl
  · rw [decide_eq_false c, decide_eq_true (show x < 8 by omega)]; rfl
theorem bt_ush8 (hx : x < 64) : btL (ushL v 8) x = (decide (x + 8 < 64) && btL v ((x + 8) % 64)) := by
  have h1 : (ushL v 8).toBitVec = v.toBitVec >>> (8 : Nat) := rfl
  rw [bt_eq hx, bt_eq (Nat.mod_lt _ (by decide)), h1, BitVec.getLsbD_ushiftRight]
  by_cases c : x + 8 < 64
  · rw [decide_eq_true c, Nat.mod_eq_of_lt c, Nat.add_comm]; rfl
  · rw [decide_eq_false c, BitVec.getLsbD_of_ge _ _ (by omega)]; rfl
theorem bt_shl56 (hx : x < 64) : btL (shlL v 56) x = (decide (56 ≤ x) && btL v (x - 56)) := by
  have h1 : (shlL v 56).toBitVec = v.toBitVec <<< (56 : Nat) := rfl
  rw [bt_eq hx, bt_eq (by omega), h1, BitVec.getLsbD_shiftLeft, decide_eq_true hx]
  by_cases c : 56 ≤ x
  · rw [decide_eq_true c, decide_eq_false (show ¬ x < 56 by omega)]; rfl
  · rw [decide_eq_false c, decide_eq_true (show x < 56 by omega)]; rfl
theorem bt_ush56 (hx : x < 64) : btL (ushL v 56) x = (decide (x + 56 < 64) && btL v ((x + 56) % 64)) := by
  have h1 : (ushL v 56).toBitVec = v.toBitVec >>> (56 : Nat) := rfl
  rw [bt_eq hx, bt_eq (Nat.mod_lt _ (by decide)), h1, BitVec.getLsbD_ushiftRight]
  by_cases c : x + 56 < 64
  · rw [decide_eq_true c, Nat.mod_eq_of_lt c, Nat.add_comm]; rfl
  · rw [decide_eq_false c, BitVec.getLsbD_of_ge _ _ (by omega)]; rfl
theorem bt_shl1 (hx : x < 64) : btL (shlL v 1) x = (decide (1 ≤ x) && btL v (x - 1)) := by
  have h1 : (shlL v 1).toBitVec = v.toBitVec <<< (1 : Nat) := rfl
  rw [bt_eq hx, bt_eq (by omega), h1, BitVec.getLsbD_shiftLeft, decide_eq_true hx]
  by_cases c : 1 ≤ x
  · rw [decide_eq_true c, decide_eq_false (show ¬ x < 1 by omega)]; rfl
  · rw [decide_eq_false c, decide_eq_true (show x < 1 by omega)]; rfl
theorem bt_ush1 (hx : x < 64) : btL (ushL v 1) x = (decide (x + 1 < 64) && btL v ((x + 1) % 64)) := by
  have h1 : (ushL v 1).toBitVec = v.toBitVec >>> (1 : Nat) := rfl
  rw [bt_eq hx, bt_eq (Nat.mod_lt _ (by decide)), h1, BitVec.getLsbD_ushiftRight]
  by_cases c : x + 1 < 64
  · rw [decide_eq_true c, Nat.mod_eq_of_lt c, Nat.add_comm]; rfl
  · rw [decide_eq_false c, BitVec.getLsbD_of_ge _ _ (by omega)]; rfl
theorem bt_shl7 (hx : x < 64) : btL (shlL v 7) x = (decide (7 ≤ x) && btL v (x - 7)) := by
  have h1 : (shlL v 7).toBitVec = v.toBitVec <<< (7 : Nat) := rfl
  rw [bt_eq hx, bt_eq (by omega), h1, BitVec.getLsbD_shiftLeft, decide_eq_true hx]
  by_cases c : 7 ≤ x
  · rw [decide_eq_true c, decide_eq_false (show ¬ x < 7 by omega)]; rfl
  · rw [decide_eq_false c, decide_eq_true (show x < 7 by omega)]; rfl
theorem bt_ush7 (hx : x < 64) : btL (ushL v 7) x = (decide (x + 7 < 64) && btL v ((x + 7) % 64)) := by
  have h1 : (ushL v 7).toBitVec = v.toBitVec >>> (7 : Nat) := rfl
  rw [bt_eq hx, bt_eq (Nat.mod_lt _ (by decide)), h1, BitVec.getLsbD_ushiftRight]
  by_cases c : x + 7 < 64
  · rw [decide_eq_true c, Nat.mod_eq_of_lt c, Nat.add_comm]; rfl
  · rw [decide_eq_false c, BitVec.getLsbD_of_ge _ _ (by omega)]; rfl
theorem msk_a : ∀ x, x < 64 → btL (-72340172838076674) x = decide (¬ x % 8 = 0) := by decide +kernel
theorem msk_b : ∀ x, x < 64 → btL 72340172838076673 x = decide (x % 8 = 0) := by decide +kernel
theorem msk_c : ∀ x, x < 64 → btL 9187201950435737471 x = decide (¬ x % 8 = 7) := by decide +kernel
theorem msk_d : ∀ x, x < 64 → btL (-9187201950435737472) x = decide (x % 8 = 7) := by decide +kernel
theorem bsN_v (hx : x < 64) : bsN x 0 = (x + 8) % 64 ∧ bsN x 1 = (x + 56) % 64 ∧ bsN x 2 = (if x % 8 = 7 then x - 7 else x + 1) ∧ bsN x 3 = (if x % 8 = 0 then x + 7 else x - 1) := by
  have h0 : bsN x 0 = (x / 8 + 1) % 8 * 8 + x % 8 := rfl
  have h1 : bsN x 1 = (x / 8 + 7) % 8 * 8 + x % 8 := rfl
  have h2 : bsN x 2 = x / 8 * 8 + (x % 8 + 1) % 8 := rfl
  have h3 : bsN x 3 = x / 8 * 8 + (x % 8 + 7) % 8 := rfl
  rw [h0, h1, h2, h3]
  refine ⟨by omega, by omega, ?_, ?_⟩
  · split <;> omega
  · split <;> omega
theorem bes_bt (hx : x < 64) : btL (besL v) x = (btL v (bsN x 0) || btL v (bsN x 1) || btL v (bsN x 2) || btL v (bsN x 3)) := by
  obtain ⟨h0, h1, h2, h3⟩ := bsN_v hx
  have e1 : (decide (8 ≤ x) && btL v (x - 8) || decide (x + 56 < 64) && btL v ((x + 56) % 64)) = btL v (bsN x 1) := by
    rw [h1]
    by_cases c : 8 ≤ x
    · rw [decide_eq_true c, decide_eq_false (show ¬ x + 56 < 64 by omega), show (x + 56) % 64 = x - 8 by omega]; simp
    · rw [decide_eq_false c, decide_eq_true (show x + 56 < 64 by omega)]; simp
  have e0 : (decide (x + 8 < 64) && btL v ((x + 8) % 64) || decide (56 ≤ x) && btL v (x - 56)) = btL v (bsN x 0) := by
    rw [h0]
    by_cases c : 56 ≤ x
    · rw [decide_eq_true c, decide_eq_false (show ¬ x + 8 < 64 by omega), show (x + 8) % 64 = x - 56 by omega]; simp
    · rw [decide_eq_false c, decide_eq_true (show x + 8 < 64 by omega)]; simp
  have e3 : ((decide (1 ≤ x) && btL v (x - 1)) && decide (¬ x % 8 = 0) || (decide (x + 7 < 64) && btL v ((x + 7) % 64)) && decide (x % 8 = 0)) = btL v (bsN x 3) := by
    rw [h3]
    by_cases c : x % 8 = 0
    · rw [if_pos c, decide_eq_true c, decide_eq_false (show ¬ ¬ x % 8 = 0 by omega), decide_eq_true (show x + 7 < 64 by omega), show (x + 7) % 64 = x + 7 by omega]; simp
    · rw [if_neg c, decide_eq_false c, decide_eq_true (show ¬ x % 8 = 0 from c), decide_eq_true (show 1 ≤ x by omega)]; simp
  have e2 : ((decide (x + 1 < 64) && btL v ((x + 1) % 64)) && decide (¬ x % 8 = 7) || (decide (7 ≤ x) && btL v (x - 7)) && decide (x % 8 = 7)) = btL v (bsN x 2) := by
    rw [h2]
    by_cases c : x % 8 = 7
    · rw [if_pos c, decide_eq_true c, decide_eq_false (show ¬ ¬ x % 8 = 7 by omega), decide_eq_true (show 7 ≤ x by omega)]; simp
    · rw [if_neg c, decide_eq_false c, decide_eq_true (show ¬ x % 8 = 7 from c), decide_eq_true (show x + 1 < 64 by omega), show (x + 1) % 64 = x + 1 by omega]; simp
  unfold besL
  rw [bt_or hx, bt_or hx, bt_or hx, bt_or hx, bt_or hx, bt_or hx, bt_or hx, bt_and hx, bt_and hx, bt_and hx, bt_and hx, bt_shl8 hx, bt_ush56 hx, bt_ush8 hx, bt_shl56 hx, bt_shl1 hx, bt_ush7 hx, bt_ush1 hx, bt_shl7 hx, msk_a x hx, msk_b x hx, msk_c x hx, msk_d x hx, e0, e1, e2, e3]
  cases btL v (bsN x 0) <;> cases btL v (bsN x 1) <;> cases btL v (bsN x 2) <;> cases btL v (bsN x 3) <;> rfl
theorem bes_ex (hx : x < 64) : btL (besL v) x = true ↔ ∃ y, y < 64 ∧ adV x y = true ∧ btL v y = true := by
  rw [bes_bt hx, Bool.or_eq_true, Bool.or_eq_true, Bool.or_eq_true]
  constructor
  · rintro (((h | h) | h) | h)
    · exact ⟨_, (bsN_ok x hx 0 (by decide)).2, adV_bs (by decide), h⟩
    · exact ⟨_, (bsN_ok x hx 1 (by decide)).2, adV_bs (by decide), h⟩
    · exact ⟨_, (bsN_ok x hx 2 (by decide)).2, adV_bs (by decide), h⟩
    · exact ⟨_, (bsN_ok x hx 3 (by decide)).2, adV_bs (by decide), h⟩
  · rintro ⟨y, -, h2, h3⟩
    obtain ⟨s, hs, rfl⟩ := adV_ex h2
    have : s = 0 ∨ s = 1 ∨ s = 2 ∨ s = 3 := by omega
    rcases this with rfl | rfl | rfl | rfl
    · exact Or.inl (Or.inl (Or.inl h3))
    · exact Or.inl (Or.inl (Or.inr h3))
    · exact Or.inl (Or.inr h3)
    · exact Or.inr h3
theorem adV_sym : ∀ a, a < 64 → ∀ b, b < 64 → adV a b = adV b a := by decide +kernel
theorem LV_sym (ha : a < 64) (hb : b < 64) : LV E a b = LV E b a := by
  unfold LV
  rw [adV_sym a ha b hb]
  cases E a <;> cases E b <;> rfl
/-- what spreads -/
theorem spr_s : sprL f e (t + 1) = sprL f e t ||| (besL (sprL f e t) &&& e) := rfl
theorem spr_fix : ∀ x, x < 64 → btL (sprL f e 65) x = btL (sprL f e 64) x := by
  have h := grow_fix (c := 64) (fun t j => decide (j < 64) && btL (sprL f e t) j) (fun t j h => by
    rw [Bool.and_eq_true, decide_eq_true_eq] at h ⊢
    exact ⟨h.1, by rw [spr_s, bt_or h.1, h.2]; rfl⟩) (fun t h j hj => by
    have e2 : sprL f e (t + 1) = sprL f e t := bt_ext fun k hk => by
      have := h k hk
      rw [decide_eq_true hk, Bool.true_and, Bool.true_and] at this
      exact this
    have e3 : sprL f e (t + 2) = sprL f e (t + 1) := by rw [spr_s, e2, ← spr_s, e2]
    rw [e3]) 63
  intro x hx
  rcases h with h | h
  · have e2 : sprL f e 64 = sprL f e 63 := bt_ext fun k hk => by
      have := h k hk
      rw [decide_eq_true hk, Bool.true_and, Bool.true_and] at this
      exact this
    have e3 : sprL f e 65 = sprL f e 64 := by
      have a1 : sprL f e 65 = sprL f e 64 ||| (besL (sprL f e 64) &&& e) := rfl
      have b1 : sprL f e 64 = sprL f e 63 ||| (besL (sprL f e 63) &&& e) := rfl
      rw [a1, e2, ← b1]
      exact e2
    rw [e3]
  · have hall : btL (sprL f e 64) x = true := by
      cases hb : btL (sprL f e 64) x
      · have := ctB_lt (p := fun j => decide (j < 64) && btL (sprL f e 64) j) (q := fun _ => true) (m := x) (fun _ _ => rfl) (by rw [hb, Bool.and_false]) rfl 64
        rw [if_pos hx] at this
        have h64 := ctB_le (p := fun _ => true) 64
        have h5 : 64 ≤ ctB (fun j => decide (j < 64) && btL (sprL f e 64) j) 64 := h
        omega
      · rfl
    rw [show (65 : Nat) = 64 + 1 from rfl, spr_s, bt_or hx, hall]
    rfl
/-- what is left when the cells before t are looked at -/
theorem spr_ok (hm : mkd (LV E) 64 M) (ht : t < 64) (hE : E t = true) (hM : M t = t) (hl : ∀ x, x < 64 → btL l x = decide (E x = true ∧ t ≤ M x)) : ∀ x, x < 64 → btL (sprL (bitL t) l 64) x = decide (M x = t) := by
  have hs : ∀ a b, a < 64 → b < 64 → LV E a b = LV E b a := fun a b ha hb => LV_sym ha hb
  have hin : ∀ n x, x < 64 → btL (sprL (bitL t) l n) x = true → E x = true ∧ M x = t := by
    intro n
    induction n with
    | zero =>
      intro x hx h
      have h2 : btL (bitL t) x = true := h
      rw [bt_bit hx ht, decide_eq_true_eq] at h2
      rw [h2]
      exact ⟨hE, hM⟩
    | succ n ih =>
      intro x hx h
      rw [spr_s, bt_or hx, bt_and hx, Bool.or_eq_true, Bool.and_eq_true] at h
      rcases h with h | ⟨h1, h2⟩
      · exact ih x hx h
      · rw [hl x hx, decide_eq_true_eq] at h2
        obtain ⟨y, hy, a1, a2⟩ := (bes_ex hx).mp h1
        obtain ⟨b1, b2⟩ := ih y hy a2
        refine ⟨h2.1, ?_⟩
        rw [mkd_ln hm hs hx hy (by unfold LV; rw [h2.1, b1, a1]; rfl)]
        exact b2
  have hmono : ∀ n, btL (sprL (bitL t) l n) t = true := by
    intro n
    induction n with
    | zero =>
      show btL (bitL t) t = true
      rw [bt_bit ht ht]; exact decide_eq_true rfl
    | succ n ih => rw [spr_s, bt_or ht, ih]; rfl
  intro x hx
  have key := mkd_cl hm hs (fun y => y < 64 ∧ btL (sprL (bitL t) l 64) y = true) ⟨ht, hmono 64⟩ hM (fun y hy => ⟨hy.1, (hin 64 y hy.1 hy.2).2⟩) (fun a b ha hb hSa hab => by
    refine ⟨hb, ?_⟩
    obtain ⟨c1, c2⟩ := hin 64 a ha hSa.2
    have c3 := mkd_ln hm hs ha hb hab
    unfold LV at hab
    rw [Bool.and_eq_true, Bool.and_eq_true] at hab
    rw [← spr_fix b hb, show (65 : Nat) = 64 + 1 from rfl, spr_s, bt_or hb, bt_and hb, Bool.or_eq_true, Bool.and_eq_true]
    refine Or.inr ⟨(bes_ex hb).mpr ⟨a, ha, by rw [adV_sym b hb a ha]; exact hab.2.2, hSa.2⟩, ?_⟩
    rw [hl b hb]
    exact decide_eq_true ⟨hab.2.1, by omega⟩) hx
  cases h : btL (sprL (bitL t) l 64) x
  · exact (decide_eq_false fun q => by have := (key.mpr q).2; rw [h] at this; cases this).symm
  · exact (decide_eq_true (key.mp ⟨hx, h⟩)).symm
/-- the greatest group of leaders before t -/
def gvN (E : Nat → Bool) (M : Nat → Nat) (t : Nat) : Nat := it t 0 fun k s => if E k = true ∧ M k = k then (if szM M 64 k ≤ s then s else szM M 64 k) else s
theorem gvN_s : gvN E M (t + 1) = if E t = true ∧ M t = t then (if szM M 64 t ≤ gvN E M t then gvN E M t else szM M 64 t) else gvN E M t := rfl
theorem gvN_ok : ∀ t, gvN E M t ≤ 64 ∧ (∀ k, k < t → E k = true → M k = k → szM M 64 k ≤ gvN E M t) ∧ (gvN E M t = 0 ∨ ∃ k, k < t ∧ E k = true ∧ M k = k ∧ szM M 64 k = gvN E M t)
  | 0 => ⟨Nat.zero_le _, fun k hk => absurd hk (Nat.not_lt_zero _), Or.inl rfl⟩
  | t + 1 => by
    obtain ⟨i1, i2, i3⟩ := gvN_ok t
    have h64 := szM_le M 64 t
    rw [gvN_s]
    by_cases c1 : E t = true ∧ M t = t
    · rw [if_pos c1]
      by_cases c2 : szM M 64 t ≤ gvN E M t
      · rw [if_pos c2]
        refine ⟨i1, fun k hk h1 h2 => ?_, ?_⟩
        · by_cases e : k = t
          · rw [e]; exact c2
          · exact i2 k (by omega) h1 h2
        · rcases i3 with h | ⟨k, h1, h2⟩
          · exact Or.inl h
          · exact Or.inr ⟨k, by omega, h2⟩
      · rw [if_neg c2]
        refine ⟨h64, fun k hk h1 h2 => ?_, Or.inr ⟨t, by omega, c1.1, c1.2, rfl⟩⟩
        by_cases e : k = t
        · rw [e]; exact Nat.le_refl _
        · have := i2 k (by omega) h1 h2; omega
    · rw [if_neg c1]
      refine ⟨i1, fun k hk h1 h2 => ?_, ?_⟩
      · by_cases e : k = t
        · subst e; exact absurd ⟨h1, h2⟩ c1
        · exact i2 k (by omega) h1 h2
      · rcases i3 with h | ⟨k, h1, h2⟩
        · exact Or.inl h
        · exact Or.inr ⟨k, by omega, h2⟩
theorem hoF_z (hm : mkd (LV E) 64 M) (h0 : ∀ x, x < 64 → btL l x = E x) : ∀ t, t ≤ 64 → (∀ x, x < 64 → btL (hoF l t).1 x = decide (E x = true ∧ t ≤ M x)) ∧ (hoF l t).2 = nI (gvN E M t)
  | 0, _ => ⟨fun x hx => by
      show btL l x = _
      rw [h0 x hx]
      cases E x
      · exact (decide_eq_false fun q => by cases q.1).symm
      · exact (decide_eq_true ⟨rfl, Nat.zero_le _⟩).symm, rfl⟩
  | t + 1, ht => by
    obtain ⟨i1, i2⟩ := hoF_z hm h0 t (by omega)
    have e0 : hoF l (t + 1) = hoS t (hoF l t) := rfl
    rw [e0]
    generalize hoF l t = p at i1 i2
    have hMt := (hm.1 t (by omega)).1
    have hs : ∀ a b, a < 64 → b < 64 → LV E a b = LV E b a := fun a b ha hb => LV_sym ha hb
    have hne : ∀ x, x < 64 → ¬ M t = t → ¬ M x = t := fun x hx h e => by
      have := mkd_id hm hs hx
      rw [e] at this
      exact h this
    unfold hoS
    rw [gvN_s]
    by_cases c1 : E t = true ∧ M t = t
    · have hb : btL p.1 t = true := by rw [i1 t (by omega)]; exact decide_eq_true ⟨c1.1, by omega⟩
      rw [if_pos hb, if_pos c1]
      have hsp := spr_ok hm (show t < 64 by omega) c1.1 c1.2 i1
      have hp : popI (sprL (bitL t) p.1 64) = nI (szM M 64 t) := by
        rw [popI_n]
        congr 1
        exact ctB_cong fun x hx => hsp x hx
      have h64 := szM_le M 64 t
      have hg := (gvN_ok (E := E) (M := M) t).1
      rw [hp, i2]
      refine ⟨fun x hx => ?_, ?_⟩
      · dsimp only
        rw [bt_and hx, bt_not hx, i1 x hx, hsp x hx]
        by_cases q : M x = t
        · rw [decide_eq_true q, decide_eq_false (show ¬ (E x = true ∧ t + 1 ≤ M x) by omega)]; simp
        · rw [decide_eq_false q, Bool.not_false, Bool.and_true]
          exact decide_eq_decide.mpr ⟨fun u => ⟨u.1, by omega⟩, fun u => ⟨u.1, by omega⟩⟩
      · dsimp only
        have hq : (nI (szM M 64 t) ≤ nI (gvN E M t)) = (szM M 64 t ≤ gvN E M t) := z_ii (by omega) (by omega)
        by_cases c2 : szM M 64 t ≤ gvN E M t
        · rw [if_pos c2, if_pos (hq.mpr c2)]
        · rw [if_neg c2, if_neg (fun u => c2 (hq.mp u))]
    · rw [if_neg c1]
      have hb : ¬ btL p.1 t = true := by
        rw [i1 t (by omega), decide_eq_true_eq]
        intro u
        exact c1 ⟨u.1, by omega⟩
      rw [if_neg hb]
      refine ⟨fun x hx => ?_, i2⟩
      rw [i1 x hx]
      refine decide_eq_decide.mpr ⟨fun u => ⟨u.1, ?_⟩, fun u => ⟨u.1, by omega⟩⟩
      by_cases q : M x = t
      · exfalso
        have hid := mkd_id hm hs hx
        rw [q] at hid
        have hxt := (hm.1 x hx).2 (fun y => E y = true) u.1 (fun a b ha hb2 hEa hL => by
          unfold LV at hL
          rw [Bool.and_eq_true, Bool.and_eq_true] at hL
          exact hL.2.1)
        rw [q] at hxt
        exact c1 ⟨hxt, hid⟩
      · omega
/-- the model's counts -/
theorem vx_z : ∀ t, t ≤ 64 → (∀ k, k < 64 → M k < 64) → ∃ m, (vxF E M O t).2 = nI m ∧ m ≤ 64 ∧ (∀ x, x < 64 → (vxF E M O t).1 x = nI (ctB (fun j => E j && decide (M j = x)) t)) ∧ (∀ x, x < 64 → ctB (fun j => E j && decide (M j = x)) t ≤ m) ∧ (m = 0 ∨ ∃ x, x < 64 ∧ ctB (fun j => E j && decide (M j = x)) t = m)
  | 0, _, _ => ⟨0, rfl, Nat.zero_le _, fun x hx => if_pos hx, fun x hx => Nat.le_refl _, Or.inl rfl⟩
  | t + 1, ht, hM => by
    obtain ⟨m, i1, i2, i3, i4, i5⟩ := vx_z t (by omega) hM
    have e0 : vxF E M O (t + 1) = vxS E M t (vxF E M O t) := rfl
    rw [e0]
    generalize vxF E M O t = q at i1 i3
    unfold vxS
    have hlt := hM t (by omega)
    by_cases c1 : E t = true
    · rw [if_pos c1]
      have hct : ∀ x, ctB (fun j => E j && decide (M j = x)) (t + 1) = if M t = x then ctB (fun j => E j && decide (M j = x)) t + 1 else ctB (fun j => E j && decide (M j = x)) t := fun x => by
        rw [ctB_s, c1, Bool.true_and]
        by_cases q : M t = x
        · rw [if_pos q, if_pos (decide_eq_true q)]
        · rw [if_neg q, if_neg (fun u => q (of_decide_eq_true u))]
      have hl : ctB (fun j => E j && decide (M j = M t)) t ≤ t := ctB_le t
      have h1 : q.1 (M t) + 1 = nI (ctB (fun j => E j && decide (M j = M t)) t + 1) := by rw [i3 _ hlt, z_1]
      rw [h1, i1]
      have hq : (nI (ctB (fun j => E j && decide (M j = M t)) t + 1) ≤ nI m) = (ctB (fun j => E j && decide (M j = M t)) t + 1 ≤ m) := z_ii (by omega) (by omega)
      have hrow : ∀ x, x < 64 → up q.1 (M t) (nI (ctB (fun j => E j && decide (M j = M t)) t + 1)) x = nI (ctB (fun j => E j && decide (M j = x)) (t + 1)) := fun x hx => by
        rw [hct x]
        by_cases e : M t = x
        · rw [if_pos e, ← e, up_s]
        · rw [if_neg e, up_n (fun u => e u.symm), i3 x hx]
      by_cases c2 : ctB (fun j => E j && decide (M j = M t)) t + 1 ≤ m
      · rw [if_pos (hq.mpr c2)]
        refine ⟨m, rfl, i2, hrow, fun x hx => ?_, ?_⟩
        · rw [hct x]
          by_cases e : M t = x
          · rw [if_pos e, ← e]; exact c2
          · rw [if_neg e]; exact i4 x hx
        · rcases i5 with h | ⟨x, hx, h⟩
          · exact Or.inl h
          · refine Or.inr ⟨x, hx, ?_⟩
            rw [hct x]
            by_cases e : M t = x
            · rw [← e] at h; omega
            · rw [if_neg e]; exact h
      · rw [if_neg (fun u => c2 (hq.mp u))]
        refine ⟨_, rfl, by omega, hrow, fun x hx => ?_, Or.inr ⟨M t, hlt, ?_⟩⟩
        · rw [hct x]
          by_cases e : M t = x
          · rw [if_pos e, ← e]; exact Nat.le_refl _
          · rw [if_neg e]
            have := i4 x hx; omega
        · rw [hct, if_pos rfl]
    · rw [if_neg c1]
      have hct : ∀ x, ctB (fun j => E j && decide (M j = x)) (t + 1) = ctB (fun j => E j && decide (M j = x)) t := fun x => by
        rw [ctB_s]
        cases h : E t
        · rw [Bool.false_and, if_neg (by decide)]
        · exact absurd h c1
      refine ⟨m, i1, i2, fun x hx => by rw [hct x]; exact i3 x hx, fun x hx => by rw [hct x]; exact i4 x hx, ?_⟩
      rcases i5 with h | ⟨x, hx, h⟩
      · exact Or.inl h
      · exact Or.inr ⟨x, hx, by rw [hct x]; exact h⟩
theorem void_eq (hm : mkd (LV E) 64 M) : (vxF E M O 64).2 = nI (gvN E M 64) := by
  have hs : ∀ a b, a < 64 → b < 64 → LV E a b = LV E b a := fun a b ha hb => LV_sym ha hb
  obtain ⟨m, i1, i2, i3, i4, i5⟩ := vx_z (E := E) (M := M) (O := O) 64 (Nat.le_refl _) (fun k hk => mkd_lt hm hk)
  obtain ⟨g1, g2, g3⟩ := gvN_ok (E := E) (M := M) 64
  have hEM : ∀ x, x < 64 → E x = E (M x) := fun x hx => by
    have h1 := (hm.1 x hx).2 (fun y => E y = E x) rfl (fun a b ha hb hEa hL => by
      unfold LV at hL
      rw [Bool.and_eq_true, Bool.and_eq_true] at hL
      rw [← hEa, hL.1, hL.2.1])
    exact h1.symm
  have hsz : ∀ x, x < 64 → E x = true → ctB (fun j => E j && decide (M j = x)) 64 = szM M 64 x := fun x hx hE => ctB_cong fun j hj => by
    by_cases q : M j = x
    · rw [hEM j hj, q, hE]; rfl
    · rw [decide_eq_false q, Bool.and_false]
  have hz : ∀ x, x < 64 → ¬ (E x = true ∧ M x = x) → ctB (fun j => E j && decide (M j = x)) 64 = 0 := fun x hx h => ctB_z fun j hj => by
    by_cases q : M j = x
    · cases hj2 : E j
      · rfl
      · exfalso
        have := mkd_id hm hs hj
        rw [q] at this
        exact h ⟨by rw [← q, ← hEM j hj]; exact hj2, this⟩
    · rw [decide_eq_false q, Bool.and_false]
  rw [i1]
  congr 1
  have a1 : m ≤ gvN E M 64 := by
    rcases i5 with h | ⟨x, hx, h⟩
    · omega
    · by_cases q : E x = true ∧ M x = x
      · rw [hsz x hx q.1] at h
        have := g2 x hx q.1 q.2
        omega
      · rw [hz x hx q] at h
        omega
  have a2 : gvN E M 64 ≤ m := by
    rcases g3 with h | ⟨k, hk, h1, h2, h3⟩
    · omega
    · have := i4 k hk
      rw [hsz k hk h1] at this
      omega
  omega
theorem tk_e (hv : ∀ m, m < c → vc m < 64) : ∀ t, t ≤ c → ∀ x, x < 64 → btL (tkL t vc) x = !eV vc t x
  | 0, _, x, hx => bt_0 hx
  | t + 1, ht, x, hx => by
    have ih := tk_e hv t (by omega) x hx
    have e0 : tkL (t + 1) vc = tkL t vc ||| bitL (vc t) := rfl
    have e1 : eV vc (t + 1) = up (eV vc t) (vc t) false := rfl
    rw [e0, e1, bt_or hx, ih, bt_bit hx (hv t (by omega))]
    by_cases q : x = vc t
    · rw [q, up_s, decide_eq_true (show vc t = vc t from rfl), Bool.or_true]; rfl
    · rw [up_n q, decide_eq_false q, Bool.or_false]
def vcS (σ : Sg) (m : Nat) : Nat := sX σ 12 m / 512 * 8 + sY σ 12 m / 512
theorem agr_voidCells (hσ : SOK σ) : agv 1 σ (fun g I J => hf_rn 136 0 [some (.ref 0)] [] g I J) (fun g I J => hf_rn 223 0 [some (.ref 270), none, none, none] [] g I J) := by
  have hN := sok_N hσ
  have hv : ∀ m, m < sN σ → vcS σ m < 64 := fun m hm => by
    obtain ⟨h1, h2⟩ := now_ok hσ m hm
    have h1' : sX σ 12 m < 4096 := h1
    have h2' : sY σ 12 m < 4096 := h2
    unfold vcS
    omega
  obtain ⟨M0, hm0⟩ := mkd_ex (LV (eV (vcS σ) (sN σ))) 64
  have hs : ∀ a b, a < 64 → b < 64 → LV (eV (vcS σ) (sN σ)) a b = LV (eV (vcS σ) (sN σ)) b a := fun a b ha hb => LV_sym ha hb
  refine ⟨σ, some (.int (nI (gvN (eV (vcS σ) (sN σ)) M0 64))), hσ, ⟨_, rfl⟩, fun g I J hL hW hC => ?_, fun g I J hL hM => ?_⟩
  · have hr := c_voidF (J := J) (lay_hx hL) (RC_c hC) hN.2 (vcS σ) (fun m hm => ⟨hv m hm, by
      obtain ⟨a1, a2, -, -⟩ := (RC_g hC).2 m hm
      obtain ⟨h1, h2⟩ := now_ok hσ m hm
      have h1' : sX σ 12 m < 4096 := h1
      have h2' : sY σ 12 m < 4096 := h2
      rw [a1, a2, show (8 : Int64) = lZ (8 : Nat) from rfl, show (512 : Int64) = lZ (512 : Nat) from rfl, lY_div (by omega) (by decide) (by decide), lY_div (by omega) (by decide) (by decide), lY_mul, lY_add, lZ_i, ← nI_iZ, Nat.mul_comm]
      rfl⟩)
    rw [(hoF_z hm0 (fun x hx => by rw [bt_not hx, tk_e hv (sN σ) (Nat.le_refl _) x hx, Bool.not_not]) 64 (Nat.le_refl _)).2] at hr
    exact cOK_0 hC hr
  · obtain ⟨M, hm, hr⟩ := m_voidCells (J := J) (lay_md hL) (RM_c hM) hN.2 (vcS σ) (fun m hm => ⟨hv m hm, by
      obtain ⟨a1, a2, -, -⟩ := (RM_g hM) m hm
      obtain ⟨h1, h2⟩ := now_ok hσ m hm
      have h1' : sX σ 12 m < 4096 := h1
      have h2' : sY σ 12 m < 4096 := h2
      rw [a1, a2, show (8 : Int32) = nI 8 from rfl, show (512 : Int32) = nI 512 from rfl, nI_dv (by omega) (by decide), nI_dv (by omega) (by decide), nI_mul, nI_add]
      rfl⟩)
    rw [void_eq hm] at hr
    have e : gvN (eV (vcS σ) (sN σ)) M 64 = gvN (eV (vcS σ) (sN σ)) M0 64 := by
      refine it_cong fun k s hk => ?_
      have h1 : ∀ j, j < 64 → M j = M0 j := fun j hj => mkd_one hm hm0 hs hj
      have h2 : szM M 64 k = szM M0 64 k := ctB_cong fun j hj => by rw [h1 j hj]
      rw [h1 k hk, h2]
    rw [e] at hr
    refine ⟨_, _, hr, RM_fr (sok_P hσ) hN.2 hM ⟨fun a b ha => ?_, fun _ _ => rfl⟩, ?_, fun a ha => ⟨?_, rfl⟩⟩
    · rw [w2_n (by unfold quI at ha; omega) (by unfold quI at ha; omega)]
      exact th_q ha
    · rw [w2_n (by decide) (by decide)]
      exact th_38
    · rw [w2_n (by omega) (by omega)]
      exact th_r (by omega)
end
