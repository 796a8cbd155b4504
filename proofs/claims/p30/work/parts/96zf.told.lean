section
variable {σ : Sg} {c l n a b s h x k t S p q m : Nat} {L : Nat → Nat → Bool} {I I2 : hf_I} {J J2 : hf_J} {g : hf_G} {R : Nat → Option Nat} {X Y X2 Y2 U W U2 W2 : Nat → Int64} {P Q : Nat → Nat} {u v : Int64} {i j y z : Int32}
theorem smP_cong {f f2 : Nat → Int64} {p p2 : Nat → Bool} (h : ∀ k, k < c → p k = p2 k ∧ (p k = true → f k = f2 k)) : smP c p f = smP c p2 f2 := by
  refine it_cong fun k z hk => ?_
  obtain ⟨h1, h2⟩ := h k hk
  rw [← h1]
  by_cases e : p k = true
  · rw [if_pos e, if_pos e, h2 e]
  · rw [if_neg e, if_neg e]
/-- the lowest grain of a halo -/
def hLow (R : Nat → Option Nat) (c h q : Nat) : Prop := q < c ∧ R q = some h ∧ ∀ j, j < q → ¬ R j = some h
theorem hLow_ex (hE : EnH L c l R n) (hh : h < n) : ∃ q, hLow R c h q := by
  obtain ⟨M, ld, -, a1, a2, a3, a4⟩ := hE
  obtain ⟨b1, b2, -⟩ := a1 h hh
  obtain ⟨q, ⟨q1, q2⟩, q3⟩ := lst (P := fun x => x < c ∧ R x = some h) (ld h) ⟨b1, (a4 (ld h) h b1).mpr ⟨hh, b2⟩⟩
  exact ⟨q, q1, q2, fun j hj e => by have := q3 j ⟨by omega, e⟩; omega⟩
theorem low_is {b : Int64} (hq : q < 64) (h1 : btL b q = true) (h2 : ∀ j, j < q → btL b j = false) : lowI (btL b) = nI q := by
  unfold lowI
  cases e : low (btL b) 64 0 with
  | none =>
    have := low_none e q (by omega) (by omega)
    rw [h1] at this
    cases this
  | some m =>
    obtain ⟨a1, -, a3, a4⟩ := low_some e
    have : m = q := by
      by_cases c1 : m < q
      · rw [h2 m c1] at a1; cases a1
      · by_cases c2 : q < m
        · rw [a4 q (by omega) c2] at h1; cases h1
        · omega
    subst this
    rfl
theorem low_S (hc2 : c ≤ 64) (hq : hLow R c h q) : lowI (btL (gbS R c h)) = nI q := by
  obtain ⟨q1, q2, q3⟩ := hq
  refine low_is (by omega) ?_ fun j hj => ?_
  · rw [gbS_bt hc2 (by omega)]
    exact decide_eq_true ⟨q1, q2⟩
  · rw [gbS_bt hc2 (by omega)]
    exact decide_eq_false fun u => q3 j hj u.2
def szR (R : Nat → Option Nat) (c h : Nat) : Nat := ctB (fun k => decide (R k = some h)) c
theorem pop_S (hc2 : c ≤ 64) : popI (gbS R c h) = nI (szR R c h) := by
  rw [popI_n]
  congr 1
  have := ctB_cut (n := c) (p := btL (gbS R c h)) (q := fun j => decide (R j = some h)) (fun j hj => by rw [gbS_bt hc2 (by omega)]; exact decide_eq_decide.mpr ⟨fun q => q.2, fun q => ⟨hj, q⟩⟩) (64 - c) (fun j a b => by rw [gbS_bt hc2 (by omega)]; exact decide_eq_false (fun q => by omega))
  rw [show c + (64 - c) = 64 by omega] at this
  exact this
theorem szR_pos (hq : hLow R c h q) : 0 < szR R c h := ctB_pos (p := fun k => decide (R k = some h)) (k := q) (decide_eq_true hq.2.1) c hq.1
theorem szR_le : szR R c h ≤ c := ctB_le c
/-- what a state tells of a halo -/
def tlS (σ : Sg) (s : Nat) (R : Nat → Option Nat) (h q m : Nat) : Int64 := valH (sN σ) (fun k => lZ (sX σ s k)) (fun k => lZ (sY σ s k)) (sU σ s) (sW σ s) (gbS R (sN σ) h) q m
theorem valH_cong {b : Int64} (h : ∀ k, k < c → X k = X2 k ∧ Y k = Y2 k ∧ U k = U2 k ∧ W k = W2 k) (hq : q < c) : valH c X Y U W b q m = valH c X2 Y2 U2 W2 b q m := by
  obtain ⟨q1, q2, -, -⟩ := h q hq
  have e1 : smP c (btL b) (fun m => wayL (X q) (X m)) = smP c (btL b) (fun m => wayL (X2 q) (X2 m)) := smP_cong fun k hk => ⟨rfl, fun _ => by rw [q1, (h k hk).1]⟩
  have e2 : smP c (btL b) (fun m => wayL (Y q) (Y m)) = smP c (btL b) (fun m => wayL (Y2 q) (Y2 m)) := smP_cong fun k hk => ⟨rfl, fun _ => by rw [q2, (h k hk).2.1]⟩
  have e3 : smP c (btL b) U = smP c (btL b) U2 := smP_cong fun k hk => ⟨rfl, fun _ => (h k hk).2.2.1⟩
  have e4 : smP c (btL b) W = smP c (btL b) W2 := smP_cong fun k hk => ⟨rfl, fun _ => (h k hk).2.2.2⟩
  have e5 : smP c (btL b) (fun m => wayL (X q) (X m) * W m - wayL (Y q) (Y m) * U m) = smP c (btL b) (fun m => wayL (X2 q) (X2 m) * W2 m - wayL (Y2 q) (Y2 m) * U2 m) := smP_cong fun k hk => ⟨rfl, fun _ => by rw [q1, q2, (h k hk).1, (h k hk).2.1, (h k hk).2.2.1, (h k hk).2.2.2]⟩
  unfold valH
  rw [e1, e2, e3, e4, e5, q1, q2]
theorem cSl_v (hσ : SOK σ) (hR : hOf σ s R n l t) (hs : sl σ s) (hc : cSl σ g I J i s R n l t S I2 J2) (hk : k < n) (hq : hLow R (sN σ) k q) : valH (sN σ) (J2 (S + 3)) (J2 (S + 5)) (J2 (S + 7)) (J2 (S + 9)) (J2 (S + 11) k) q m = tlS σ s R k q m := by
  rw [cSl_b hc hσ hk]
  obtain ⟨-, -, c3, -, c5, -⟩ := hc
  obtain ⟨g1, g2⟩ := c5.2.1 s hs
  rw [c3] at g2
  exact valH_cong (fun x hx => g2 x hx) hq.1
end
