section
variable {L : Nat → Nat → Bool} {c k a b x l f t : Nat} {M M2 : Nat → Nat} {X Y : Nat → Int64} {v w G F : Int64}
def gIv (c : Nat) (L : Nat → Nat → Bool) (M : Nat → Nat) (f : Nat) (t : Nat) (p : Int64 × Int64) : Prop :=
  (∀ x, x < 64 → btL p.1 x = true → x < c ∧ M x = f) ∧ btL p.1 f = true ∧ (∀ x, x < 64 → btL p.2 x = true → btL p.1 x = true) ∧
  (∀ x y, x < 64 → y < c → btL p.1 x = true → btL p.2 x = false → L x y = true → btL p.1 y = true) ∧ (p.2 = 0 ∨ t ≤ ctB (fun x => btL p.1 x && !btL p.2 x) 64)
theorem gst_iv (hc2 : c ≤ 64) (h : mkd (nrL X Y v) c M) (hs : ∀ a b, a < c → b < c → nrL X Y v a b = nrL X Y v b a) (hf : f < c) {p : Int64 × Int64} (hi : gIv c (nrL X Y v) M f t p) : gIv c (nrL X Y v) M f (t + 1) (gst c X Y v p) := by
  obtain ⟨G, F⟩ := p
  obtain ⟨i1, i2, i3, i4, i5⟩ := hi
  unfold gst
  by_cases c1 : F = 0
  · rw [if_pos c1]
    exact ⟨i1, i2, i3, i4, Or.inl c1⟩
  · rw [if_neg c1]
    obtain ⟨k, hk, hk2⟩ := low_ne c1
    dsimp only at i1 i2 i3 i4 i5 ⊢
    rw [hk]
    have hkF : btL F k = true := (low_some hk).1
    have hkG := i3 k hk2 hkF
    obtain ⟨hkc, hkM⟩ := i1 k hk2 hkG
    dsimp only
    have hn : ∀ x, x < 64 → btL (orL c (nrL X Y v k) &&& (G ^^^ -1)) x = ((decide (x < c) && nrL X Y v k x) && !btL G x) := fun x hx => by
      rw [bt_and hx, bt_orL hc2 hx, bt_not hx]
    have hG : ∀ x, x < 64 → btL (G ||| (orL c (nrL X Y v k) &&& (G ^^^ -1))) x = (btL G x || ((decide (x < c) && nrL X Y v k x) && !btL G x)) := fun x hx => by
      rw [bt_or hx, hn x hx]
    have hF : ∀ x, x < 64 → btL ((F &&& (bitL k ^^^ -1)) ||| (orL c (nrL X Y v k) &&& (G ^^^ -1))) x = ((btL F x && !decide (x = k)) || ((decide (x < c) && nrL X Y v k x) && !btL G x)) := fun x hx => by
      rw [bt_or hx, hn x hx, bt_and hx, bt_not hx, bt_bit hx hk2]
    refine ⟨fun x hx q => ?_, ?_, fun x hx q => ?_, fun x y hx hy q1 q2 q3 => ?_, ?_⟩
    · dsimp only at q
      rw [hG x hx, Bool.or_eq_true, Bool.and_eq_true, Bool.and_eq_true, decide_eq_true_eq] at q
      rcases q with q | ⟨⟨q1, q2⟩, -⟩
      · exact i1 x hx q
      · exact ⟨q1, (mkd_ln h hs hkc q1 q2).symm.trans hkM⟩
    · dsimp only
      rw [hG f (by omega), i2, Bool.true_or]
    · dsimp only at q ⊢
      rw [hF x hx, Bool.or_eq_true, Bool.and_eq_true] at q
      rw [hG x hx, Bool.or_eq_true]
      rcases q with q | q
      · exact Or.inl (i3 x hx q.1)
      · exact Or.inr q
    · dsimp only at q1 q2 ⊢
      rw [hG x hx, Bool.or_eq_true] at q1
      rw [hF x hx, Bool.or_eq_false_iff] at q2
      rw [hG y (by omega), Bool.or_eq_true]
      have g1 : btL G x = true := by
        rcases q1 with q1 | q1
        · exact q1
        · rw [q2.2] at q1; cases q1
      by_cases c2 : x = k
      · subst c2
        cases e : btL G y
        · refine Or.inr ?_
          rw [decide_eq_true hy, q3]
          rfl
        · exact Or.inl rfl
      · have g2 : btL F x = false := by
          have := q2.1
          rw [decide_eq_false c2, Bool.not_false, Bool.and_true] at this
          exact this
        exact Or.inl (i4 x y hx hy g1 g2 q3)
    · refine Or.inr ?_
      rcases i5 with i5 | i5
      · exact absurd i5 c1
      · dsimp only
        have hA : ctB (fun x => btL G x && !btL F x) 64 = ctB (fun x => decide (x < 64) && (btL G x && !btL F x)) 64 := ctB_cong fun x hx => by rw [decide_eq_true hx, Bool.true_and]
        have hB : ctB (fun x => btL (G ||| (orL c (nrL X Y v k) &&& (G ^^^ -1))) x && !btL ((F &&& (bitL k ^^^ -1)) ||| (orL c (nrL X Y v k) &&& (G ^^^ -1))) x) 64 = ctB (fun x => decide (x < 64) && ((btL G x || ((decide (x < c) && nrL X Y v k x) && !btL G x)) && !((btL F x && !decide (x = k)) || ((decide (x < c) && nrL X Y v k x) && !btL G x)))) 64 := ctB_cong fun x hx => by rw [decide_eq_true hx, Bool.true_and, hG x hx, hF x hx]
        have := ctB_lt (p := fun x => decide (x < 64) && (btL G x && !btL F x)) (q := fun x => decide (x < 64) && ((btL G x || ((decide (x < c) && nrL X Y v k x) && !btL G x)) && !((btL F x && !decide (x = k)) || ((decide (x < c) && nrL X Y v k x) && !btL G x)))) (m := k) (fun x hx => by
          simp only [Bool.and_eq_true, decide_eq_true_eq, Bool.not_eq_true'] at hx
          rw [hx.2.1, hx.2.2, decide_eq_true hx.1]
          simp) (by
          show (decide (k < 64) && (btL G k && !btL F k)) = false
          rw [hkF]; simp) (by
          show (decide (k < 64) && ((btL G k || ((decide (k < c) && nrL X Y v k k) && !btL G k)) && !((btL F k && !decide (k = k)) || ((decide (k < c) && nrL X Y v k k) && !btL G k)))) = true
          rw [hkG, decide_eq_true hk2]; simp) 64
        rw [if_pos hk2] at this
        rw [hB]
        rw [hA] at i5
        omega
theorem grp_ok (hc2 : c ≤ 64) (h : mkd (nrL X Y v) c M) (hs : ∀ a b, a < c → b < c → nrL X Y v a b = nrL X Y v b a) (hf : f < c) (hM : M f = f) : ∀ x, x < 64 → btL (grpL c X Y v f) x = decide (x < c ∧ M x = f) := by
  have hi : gIv c (nrL X Y v) M f 64 (it 64 (bitL f, bitL f) fun _ p => gst c X Y v p) := by
    refine it_inv (gIv c (nrL X Y v) M f) ⟨fun x hx q => ?_, ?_, fun x hx q => q, fun x y hx hy q1 q2 _ => ?_, Or.inr (Nat.zero_le _)⟩ fun t p _ hp => gst_iv hc2 h hs hf hp
    · rw [bt_bit hx (by omega), decide_eq_true_eq] at q
      subst q
      exact ⟨hf, hM⟩
    · rw [bt_bit (by omega) (by omega)]; exact decide_eq_true rfl
    · dsimp only at q1 q2
      rw [q1] at q2; cases q2
  unfold grpL
  generalize (it 64 (bitL f, bitL f) fun _ p => gst c X Y v p) = p at hi
  obtain ⟨i1, i2, i3, i4, i5⟩ := hi
  have hF : ∀ x, x < 64 → btL p.2 x = false := by
    intro x hx
    rcases i5 with i5 | i5
    · rw [i5]; exact bt_0 hx
    · cases e : btL p.2 x
      · rfl
      · have := ctB_lt (p := fun x => btL p.1 x && !btL p.2 x) (q := fun _ => true) (m := x) (fun _ _ => rfl) (by rw [e]; simp) rfl 64
        rw [if_pos hx] at this
        have h64 := ctB_le (p := fun _ => true) 64
        omega
  intro x hx
  by_cases c1 : x < c
  · have := mkd_cl h hs (fun y => y < 64 ∧ btL p.1 y = true) ⟨by omega, i2⟩ hM (fun y hy => i1 y hy.1 hy.2) (fun a b ha hb hSa hl => ⟨by omega, i4 a b hSa.1 hb hSa.2 (hF a hSa.1) hl⟩) c1
    cases e : btL p.1 x
    · exact (decide_eq_false (fun q => by have := (this.mpr q.2).2; rw [e] at this; cases this)).symm
    · exact (decide_eq_true ⟨c1, this.mp ⟨hx, e⟩⟩).symm
  · rw [decide_eq_false (fun q => c1 q.1)]
    cases e : btL p.1 x
    · rfl
    · exact absurd (i1 x hx e).1 c1
end
