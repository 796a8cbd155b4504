def evB (H : Nat → Nat → Option Nat) : Nat → Nat → Bool
  | 0, _ => false
  | p + 1, k => evB H p k || (H p k).isSome
def frN (H : Nat → Nat → Option Nat) (c p h : Nat) : Nat := ctB (fun k => decide (H p k = some h) && !evB H p k) c
/-- the class's rows, when pictures before t had their grains told -/
def vQ (H : Nat → Nat → Option Nat) (cn : Nat → Nat) (c P t : Nat) (Ga : Nat → Nat → Int64) (V : Nat → Nat → Nat) : Prop := ∀ q h w, q < P → h < cn q → w < 4 → Ga q (4 * h + w) = lZ ((V (64 * q + h) w + if w = 0 ∧ t ≤ q then 100 * frN H c q h else 0 : Nat) : Int)
section
variable {H : Nat → Nat → Option Nat} {cn : Nat → Nat} {nx nx2 : Nat → Nat → Option (Nat × Nat)} {co fo wi c p k h n m a b P t w q j : Nat} {B : Nat → Bool} {V V2 : Nat → Nat → Nat} {x y : Nat → Nat} {E F : Nat → Int64} {Ga : Nat → Nat → Int64} {Hs : Nat → Nat → Int64} {ev v : Int64}
theorem vN_B : ∀ t, (it t (B, V) (vN H p)).1 k = (B k || (decide (k < t) && (H p k).isSome))
  | 0 => by rw [decide_eq_false (Nat.not_lt_zero k)]; simp [it]
  | t + 1 => by
    have ih : (it t (B, V) (vN H p)).1 k = (B k || (decide (k < t) && (H p k).isSome)) := vN_B t
    rw [it_s]
    generalize it t (B, V) (vN H p) = u at ih
    unfold vN
    by_cases e : k = t
    · subst e
      rw [decide_eq_false (Nat.lt_irrefl _)] at ih
      rw [decide_eq_true (Nat.lt_succ_self _)]
      cases hh : H p k with
      | none => dsimp only; rw [ih]; simp
      | some h =>
        dsimp only
        by_cases c1 : u.1 k = true
        · rw [if_pos c1, c1]; simp
        · rw [if_neg c1]
          show up u.1 k true k = _
          rw [up_s]; simp
    · have e2 : decide (k < t + 1) = decide (k < t) := decide_eq_decide.mpr (by omega)
      rw [e2]
      cases hh : H p t with
      | none => exact ih
      | some h =>
        dsimp only
        split
        · exact ih
        · show up u.1 t true k = _
          rw [up_n e]; exact ih
theorem vN_V : ∀ t, (it t (B, V) (vN H p)).2 n w = V n w + if w = 0 ∧ 64 * p ≤ n then 100 * ctB (fun k => decide (H p k = some (n - 64 * p)) && !B k) t else 0
  | 0 => by
    show V n w = _
    split <;> rfl
  | t + 1 => by
    have ih : (it t (B, V) (vN H p)).2 n w = V n w + if w = 0 ∧ 64 * p ≤ n then 100 * ctB (fun k => decide (H p k = some (n - 64 * p)) && !B k) t else 0 := vN_V t
    have ihB : (it t (B, V) (vN H p)).1 t = (B t || (decide (t < t) && (H p t).isSome)) := vN_B t
    rw [decide_eq_false (Nat.lt_irrefl _), Bool.false_and, Bool.or_false] at ihB
    rw [it_s, ctB_s]
    generalize it t (B, V) (vN H p) = u at ih ihB
    unfold vN
    cases hh : H p t with
    | none =>
      have e : (decide (none = some (n - 64 * p)) && !B t) = false := by rw [decide_eq_false (fun q => by cases q)]; rfl
      rw [e, if_neg (by decide : ¬ false = true)]
      exact ih
    | some h =>
      dsimp only
      rw [ihB]
      cases hb : B t
      · rw [if_neg (by decide)]
        show up u.2 (64 * p + h) (up (u.2 (64 * p + h)) 0 (u.2 (64 * p + h) 0 + 100)) n w = _
        by_cases e : n = 64 * p + h
        · subst e
          have e2 : (decide (some h = some (64 * p + h - 64 * p)) && !false) = true := by rw [show 64 * p + h - 64 * p = h by omega, decide_eq_true rfl]; rfl
          rw [up_s, e2, if_pos rfl]
          by_cases ew : w = 0
          · subst ew
            rw [up_s, ih, if_pos ⟨rfl, by omega⟩, if_pos ⟨rfl, by omega⟩]
            omega
          · rw [up_n ew, ih, if_neg (fun q => ew q.1), if_neg (fun q => ew q.1)]
        · rw [up_n e, ih]
          by_cases c1 : 64 * p ≤ n
          · have e2 : (decide (some h = some (n - 64 * p)) && !false) = false := by
              rw [decide_eq_false (fun q => by have := Option.some.inj q; omega)]; rfl
            rw [e2, if_neg (by decide : ¬ false = true)]
          · rw [if_neg (fun q => c1 q.2), if_neg (fun q => c1 q.2)]
      · rw [if_pos rfl, Bool.not_true, Bool.and_false, if_neg (by decide : ¬ false = true)]
        exact ih
theorem vQ_N (hP : p < P) (hcn : ∀ q, q < P → cn q ≤ 64) (hH : ∀ k h, k < c → H p k = some h → h < 64) (hB : ∀ k, k < c → B k = evB H p k) (hq : vQ H cn c P p Ga V) : vQ H cn c P (p + 1) Ga (it c (B, V) (vN H p)).2 := by
  intro q h w hq2 hh hw
  rw [hq q h w hq2 hh hw, vN_V c]
  have h64 := hcn q hq2
  congr 2
  by_cases ew : w = 0
  · by_cases e1 : q = p
    · subst e1
      rw [if_pos ⟨ew, Nat.le_refl _⟩, if_neg (show ¬ (w = 0 ∧ q + 1 ≤ q) by omega), if_pos (show w = 0 ∧ 64 * q ≤ 64 * q + h by omega), show 64 * q + h - 64 * q = h by omega]
      have : frN H c q h = ctB (fun k => decide (H q k = some h) && !B k) c := ctB_cong fun k hk => by rw [hB k hk]
      rw [this]
      all_goals rfl
    · by_cases e2 : q < p
      · rw [if_neg (show ¬ (w = 0 ∧ p ≤ q) by omega), if_neg (show ¬ (w = 0 ∧ p + 1 ≤ q) by omega), if_neg (show ¬ (w = 0 ∧ 64 * p ≤ 64 * q + h) by omega)]
        all_goals rfl
      · have e3 : ctB (fun k => decide (H p k = some (64 * q + h - 64 * p)) && !B k) c = 0 := ctB_z fun k hk => by
          rw [decide_eq_false (fun u => by have := hH k _ hk u; omega)]; rfl
        rw [if_pos (show w = 0 ∧ p ≤ q by omega), if_pos (show w = 0 ∧ p + 1 ≤ q by omega), if_pos (show w = 0 ∧ 64 * p ≤ 64 * q + h by omega), e3]
        all_goals rfl
  · rw [if_neg (fun u => ew u.1), if_neg (fun u => ew u.1), if_neg (fun u => ew u.1)]
    all_goals rfl
theorem tu_x (h : m ≠ n) : tuE E m n v m = E m + -v := by unfold tuE; rw [up_n h, up_s]
theorem tu_y (h : m ≠ n) : tuE E m n v n = E n + v := by unfold tuE; rw [up_s, up_n (fun e => h e.symm)]
theorem tu_n (h : j ≠ m) (h2 : j ≠ n) : tuE E m n v j = E j := by unfold tuE; rw [up_n h2, up_n h]
theorem lY_mul : lZ (a : Nat) * lZ (b : Nat) = lZ (a * b : Nat) := by rw [lZ_mul, Int.natCast_mul]
theorem lY_add : lZ (a : Nat) + lZ (b : Nat) = lZ (a + b : Nat) := by rw [lZ_add, Int.natCast_add]
theorem lY_sub (h : b ≤ a) : lZ (a : Nat) + -lZ (b : Nat) = lZ (a - b : Nat) := by
  rw [lZ_neg, lZ_add]
  congr 1
  omega
theorem lY_div (ha : a < 2147483648) (hb : 0 < b) (hb2 : b < 2147483648) : lZ (a : Nat) / lZ (b : Nat) = lZ (a / b : Nat) := by
  rw [lZ_div ⟨by omega, by omega⟩ ⟨by omega, by omega⟩ (by omega), td_pos (by omega)]
  congr 1
theorem lY_le (ha : a < 2147483648) (hb : b < 2147483648) : (lZ (a : Nat) ≤ lZ (b : Nat)) = (a ≤ b) := by
  rw [lZ_le ⟨by omega, by omega⟩ ⟨by omega, by omega⟩]
  apply propext; omega
theorem ur_z (hc : co ≤ 1000) (hf : fo ≤ 1000) (hw : wi ≤ 5000) (hx : totN x ≤ 6400) (hE : ∀ w, w < 4 → E (4 * k + w) = lZ (x w : Nat)) : (∀ w, w < 4 → urE (lZ (co : Nat)) (lZ (fo : Nat)) (lZ (wi : Nat)) E k (4 * k + w) = lZ (c4N co fo wi x w : Nat)) ∧ ∀ j, j < 4 * k ∨ 4 * k + 4 ≤ j → urE (lZ (co : Nat)) (lZ (fo : Nat)) (lZ (wi : Nat)) E k j = E j := by
  obtain ⟨x0, x1, x2, x3, x4⟩ := tot_le hx
  have h1 := c4a_le (x := x) hc
  have h2 := c4b_le (x := x) (co := co) hf
  have h3 := c4c_le (x := x) (co := co) (fo := fo) (wi := wi)
  have m1 := Nat.mul_le_mul hc x0
  have m2 := Nat.mul_le_mul hf (show x 1 + c4a co x ≤ 6400 by omega)
  have m3 := Nat.mul_le_mul hw (show c4b co fo x ≤ 6400 by omega)
  have e0 := hE 0 (by decide)
  have e1 := hE 1 (by decide)
  have e2 := hE 2 (by decide)
  have e3 := hE 3 (by decide)
  have t1 : lZ (co : Nat) * E (4 * k + 0) / 1000 = lZ (c4a co x : Nat) := by
    rw [e0, lY_mul, show (1000 : Int64) = lZ (1000 : Nat) from rfl, lY_div (by omega) (by decide) (by decide)]
    rfl
  unfold urE
  rw [t1]
  have a0 : tuE E (4 * k + 0) (4 * k + 1) (lZ (c4a co x : Nat)) (4 * k + 0) = lZ (x 0 - c4a co x : Nat) := by rw [tu_x (by omega), e0, lY_sub h1]
  have a1 : tuE E (4 * k + 0) (4 * k + 1) (lZ (c4a co x : Nat)) (4 * k + 1) = lZ (x 1 + c4a co x : Nat) := by rw [tu_y (by omega), e1, lY_add]
  have a2 : tuE E (4 * k + 0) (4 * k + 1) (lZ (c4a co x : Nat)) (4 * k + 2) = lZ (x 2 : Nat) := by rw [tu_n (by omega) (by omega), e2]
  have a3 : tuE E (4 * k + 0) (4 * k + 1) (lZ (c4a co x : Nat)) (4 * k + 3) = lZ (x 3 : Nat) := by rw [tu_n (by omega) (by omega), e3]
  have a4 : ∀ j, j < 4 * k ∨ 4 * k + 4 ≤ j → tuE E (4 * k + 0) (4 * k + 1) (lZ (c4a co x : Nat)) j = E j := fun j hj => tu_n (by omega) (by omega)
  generalize tuE E (4 * k + 0) (4 * k + 1) (lZ (c4a co x : Nat)) = E1 at *
  have t2 : lZ (fo : Nat) * E1 (4 * k + 1) / 1000 = lZ (c4b co fo x : Nat) := by
    rw [a1, lY_mul, show (1000 : Int64) = lZ (1000 : Nat) from rfl, lY_div (by omega) (by decide) (by decide)]
    rfl
  rw [t2]
  have b0 : tuE E1 (4 * k + 1) (4 * k + 2) (lZ (c4b co fo x : Nat)) (4 * k + 0) = lZ (x 0 - c4a co x : Nat) := by rw [tu_n (by omega) (by omega), a0]
  have b1 : tuE E1 (4 * k + 1) (4 * k + 2) (lZ (c4b co fo x : Nat)) (4 * k + 1) = lZ (x 1 + c4a co x - c4b co fo x : Nat) := by rw [tu_x (by omega), a1, lY_sub h2]
  have b2 : tuE E1 (4 * k + 1) (4 * k + 2) (lZ (c4b co fo x : Nat)) (4 * k + 2) = lZ (x 2 + c4b co fo x : Nat) := by rw [tu_y (by omega), a2, lY_add]
  have b3 : tuE E1 (4 * k + 1) (4 * k + 2) (lZ (c4b co fo x : Nat)) (4 * k + 3) = lZ (x 3 : Nat) := by rw [tu_n (by omega) (by omega), a3]
  have b4 : ∀ j, j < 4 * k ∨ 4 * k + 4 ≤ j → tuE E1 (4 * k + 1) (4 * k + 2) (lZ (c4b co fo x : Nat)) j = E j := fun j hj => (tu_n (by omega) (by omega)).trans (a4 j hj)
  generalize tuE E1 (4 * k + 1) (4 * k + 2) (lZ (c4b co fo x : Nat)) = E2 at *
  have t3 : (if lZ (wi : Nat) * lZ (c4b co fo x : Nat) / 1000 ≤ E2 (4 * k + 1) then lZ (wi : Nat) * lZ (c4b co fo x : Nat) / 1000 else E2 (4 * k + 1)) = lZ (c4c co fo wi x : Nat) := by
    rw [b1, lY_mul, show (1000 : Int64) = lZ (1000 : Nat) from rfl, lY_div (by omega) (by decide) (by decide)]
    have hq : (lZ (wi * c4b co fo x / 1000 : Nat) ≤ lZ (x 1 + c4a co x - c4b co fo x : Nat)) = (wi * c4b co fo x / 1000 ≤ x 1 + c4a co x - c4b co fo x) := lY_le (by omega) (by omega)
    unfold c4c
    by_cases q : wi * c4b co fo x / 1000 ≤ x 1 + c4a co x - c4b co fo x
    · rw [if_pos (hq.mpr q)]
      by_cases q2 : x 1 + c4a co x - c4b co fo x ≤ wi * c4b co fo x / 1000
      · rw [if_pos q2]; congr 2; omega
      · rw [if_neg q2]
    · rw [if_neg (fun u => q (hq.mp u)), if_pos (by omega)]
  rw [t3]
  refine ⟨fun w hw => ?_, fun j hj => (tu_n (by omega) (by omega)).trans (b4 j hj)⟩
  have : w = 0 ∨ w = 1 ∨ w = 2 ∨ w = 3 := by omega
  rcases this with rfl | rfl | rfl | rfl
  · rw [tu_n (by omega) (by omega), b0]; rfl
  · rw [tu_x (by omega), b1, lY_sub h3]; rfl
  · rw [tu_n (by omega) (by omega), b2]; rfl
  · rw [tu_y (by omega), b3, lY_add]; rfl
theorem vQ_C (hc : co ≤ 1000) (hf : fo ≤ 1000) (hw : wi ≤ 5000) (hP : p < P) (hk : k < cn p) (hcn : ∀ q, q < P → cn q ≤ 64) (hx : totN (V (64 * p + k)) ≤ 6400) (hq : vQ H cn c P (p + 1) Ga V) : vQ H cn c P (p + 1) (gU Ga p (urE (lZ (co : Nat)) (lZ (fo : Nat)) (lZ (wi : Nat)) (Ga p) k)) (vC co fo wi (64 * p + k) V) := by
  have hE : ∀ w, w < 4 → Ga p (4 * k + w) = lZ (V (64 * p + k) w : Nat) := fun w hw => by rw [hq p k w hP hk hw, if_neg (by omega)]; rfl
  obtain ⟨u1, u2⟩ := ur_z hc hf hw hx hE
  intro q h w hq2 hh hw2
  have h64 := hcn q hq2
  have k64 := hcn p hP
  unfold vC
  by_cases e1 : q = p
  · subst e1
    rw [gU_s]
    by_cases e2 : h = k
    · subst e2
      rw [u1 w hw2, up_s, if_neg (by omega)]; rfl
    · rw [u2 _ (by omega), up_n (by omega)]
      exact hq q h w hq2 hh hw2
  · rw [gU_n e1, up_n (by omega)]
    exact hq q h w hq2 hh hw2
theorem h4_at : ∀ t, h4E F E k h t j = if 4 * h ≤ j ∧ j < 4 * h + t then E j + F (4 * k + (j - 4 * h)) else E j
  | 0 => by rw [if_neg (by omega)]; rfl
  | t + 1 => by
    have ih : h4E F E k h t j = if 4 * h ≤ j ∧ j < 4 * h + t then E j + F (4 * k + (j - 4 * h)) else E j := h4_at t
    have e0 : h4E F E k h (t + 1) = up (h4E F E k h t) (4 * h + t) (h4E F E k h t (4 * h + t) + F (4 * k + t)) := rfl
    rw [e0]
    by_cases e : j = 4 * h + t
    · rw [if_neg (by omega)] at ih
      have g : up (h4E F E k h t) (4 * h + t) (h4E F E k h t (4 * h + t) + F (4 * k + t)) j = h4E F E k h t j + F (4 * k + t) := by rw [e, up_s]
      rw [g, ih, if_pos (by omega), show j - 4 * h = t by omega]
    · rw [up_n e, ih]
      have : (4 * h ≤ j ∧ j < 4 * h + t) = (4 * h ≤ j ∧ j < 4 * h + (t + 1)) := by apply propext; omega
      simp only [this]
theorem vQ_G (hP : p < P) (hk : k < cn p) (hcn : ∀ q, q < P → cn q ≤ 64) (ha : p < a) (ha2 : a < P) (hb : b < cn a) (hq : vQ H cn c P (p + 1) Ga V) : vQ H cn c P (p + 1) (gU Ga a (h4E (Ga p) (Ga a) k b 4)) (vG (64 * p + k) (64 * a + b) V) := by
  intro q h w hq2 hh hw2
  have h64 := hcn q hq2
  have b64 := hcn a ha2
  unfold vG
  by_cases e1 : q = a
  · subst e1
    rw [gU_s, h4_at]
    by_cases e2 : h = b
    · subst e2
      rw [if_pos (by omega), up_s, show 4 * h + w - 4 * h = w by omega, hq q h w hq2 hh hw2, hq p k w hP hk hw2, lY_add, if_neg (by omega : ¬ (w = 0 ∧ p + 1 ≤ p))]
      congr 2
      omega
    · rw [if_neg (by omega), up_n (by omega)]
      exact hq q h w hq2 hh hw2
  · rw [gU_n e1, up_n (by omega)]
    exact hq q h w hq2 hh hw2
/-- a model's state made of the amounts -/
def ofV (V : Nat → Nat → Nat) : Q4 := ((fun n => nI (V n 0)), (fun n => nI (V n 1)), (fun n => nI (V n 2)), fun n => nI (V n 3))
theorem ofV_M : vM V (ofV V) := fun _ _ => ⟨rfl, rfl, rfl, rfl⟩
theorem vQ_K (hc2 : c ≤ 64) (hc : co ≤ 1000) (hf : fo ≤ 1000) (hw : wi ≤ 5000) (hP : p < P) (hP2 : P ≤ 12) (hcn : ∀ q, q < P → cn q ≤ 64) (hx : ∀ p k a b, p < P → k < cn p → nx p k = some (a, b) → p < a ∧ a < P ∧ b < cn a) (hnx : ∀ k, k < cn p → nx2 p k = nx p k) {z : Nat} (hb : vB c (64 * p) B V) (hq : vQ H cn c P (p + 1) Ga V) : ∀ t, t ≤ cn p → vQ H cn c P (p + 1) (g2K nx2 (lZ (co : Nat)) (lZ (fo : Nat)) (lZ (wi : Nat)) p Ga t) (it t (z, V) (vS nx co fo wi p)).2
  | 0, _ => hq
  | t + 1, ht => by
    have ih := vQ_K hc2 hc hf hw hP hP2 hcn hx hnx (z := z) hb hq t (by omega)
    have hbd := (vM_S (nx := nx) (m := cn p) (z := z) (Q := ofV V) hc2 hc hf hw (show p < 12 by omega) (fun k a b hk e => by
      have h1 := hx p k a b hP hk e
      have := hcn a h1.2.1
      omega) (hcn p hP) ofV_M hb t (by omega)).2.2
    have e0 : g2K nx2 (lZ (co : Nat)) (lZ (fo : Nat)) (lZ (wi : Nat)) p Ga (t + 1) = hoG nx2 p t (gU (g2K nx2 (lZ (co : Nat)) (lZ (fo : Nat)) (lZ (wi : Nat)) p Ga t) p (urE (lZ (co : Nat)) (lZ (fo : Nat)) (lZ (wi : Nat)) (g2K nx2 (lZ (co : Nat)) (lZ (fo : Nat)) (lZ (wi : Nat)) p Ga t p) t)) := rfl
    rw [e0, it_s]
    generalize g2K nx2 (lZ (co : Nat)) (lZ (fo : Nat)) (lZ (wi : Nat)) p Ga t = G2 at ih
    generalize it t (z, V) (vS nx co fo wi p) = u at ih hbd
    have h64 := hcn p hP
    have h1 := vQ_C hc hf hw hP (show t < cn p by omega) hcn (hbd.2 _ (by omega)) ih
    unfold hoG vS
    rw [hnx t (by omega)]
    cases e : nx p t with
    | none => exact h1
    | some r =>
      obtain ⟨a, b⟩ := r
      have h2 := hx p t a b hP (by omega) e
      exact vQ_G hP (show t < cn p by omega) hcn h2.1 h2.2.1 h2.2.2 h1
theorem vA_B (hcn : True) : ∀ t k, k < c → (vA H cn nx co fo wi c t).2.1 k = evB H t k
  | 0, _, _ => rfl
  | t + 1, k, hk => by
    have ih := vA_B hcn t k hk
    have e1 : (vA H cn nx co fo wi c (t + 1)).2.1 = (it c ((vA H cn nx co fo wi c t).2.1, (vA H cn nx co fo wi c t).2.2) (vN H t)).1 := rfl
    rw [e1, vN_B c, ih, decide_eq_true hk, Bool.true_and]
    rfl
theorem vQ_A (hc2 : c ≤ 64) (hc : co ≤ 1000) (hf : fo ≤ 1000) (hw : wi ≤ 5000) (hP2 : P ≤ 12) (hcn : ∀ q, q < P → cn q ≤ 64) (hH : ∀ p k h, p < P → k < c → H p k = some h → h < 64) (hx : ∀ p k a b, p < P → k < cn p → nx p k = some (a, b) → p < a ∧ a < P ∧ b < cn a) (hnx : ∀ p k, p < P → k < cn p → nx2 p k = nx p k) (hq : vQ H cn c P 0 Ga (fun _ _ => 0)) : ∀ t, t ≤ P → vQ H cn c P t (g2F cn nx2 (lZ (co : Nat)) (lZ (fo : Nat)) (lZ (wi : Nat)) Ga t) (vA H cn nx co fo wi c t).2.2
  | 0, _ => hq
  | t + 1, ht => by
    have ih := vQ_A hc2 hc hf hw hP2 hcn hH hx hnx hq t (by omega)
    have hA := (vM_A (H := H) (cn := cn) (nx := nx) (R := fun j => coM (H (j / 64) (j % 64))) hP2 hc2 hc hf hw (fun p k hp hk => by rw [show (64 * p + k) / 64 = p by omega, show (64 * p + k) % 64 = k by omega]) hH hcn (fun p k a b hp hk e => by
      have h1 := hx p k a b hp hk e
      have := hcn a h1.2.1
      omega) t (by omega)).2.2.2
    have hB : ∀ k, k < c → (vA H cn nx co fo wi c t).2.1 k = evB H t k := fun k hk => vA_B trivial t k hk
    have e0 : g2F cn nx2 (lZ (co : Nat)) (lZ (fo : Nat)) (lZ (wi : Nat)) Ga (t + 1) = g2K nx2 (lZ (co : Nat)) (lZ (fo : Nat)) (lZ (wi : Nat)) t (g2F cn nx2 (lZ (co : Nat)) (lZ (fo : Nat)) (lZ (wi : Nat)) Ga t) (cn t) := rfl
    have e1 : vA H cn nx co fo wi c (t + 1) = vP H cn nx co fo wi c t (vA H cn nx co fo wi c t) := rfl
    rw [e0, e1]
    generalize g2F cn nx2 (lZ (co : Nat)) (lZ (fo : Nat)) (lZ (wi : Nat)) Ga t = G2 at ih
    generalize vA H cn nx co fo wi c t = u at ih hA hB
    obtain ⟨u1, u2, u3⟩ := u
    dsimp only at ih hA hB
    have j1 := vQ_N (show t < P by omega) hcn (fun k h hk e => hH t k h (by omega) hk e) hB ih
    have j2 := (vM_N (H := H) (p := t) (R := fun j => coM (H (j / 64) (j % 64))) (Bi := fun k => if u2 k = true then 1 else 0) (Q := ofV u3) hc2 (show t < 12 by omega) (fun k hk => by rw [show (64 * t + k) / 64 = t by omega, show (64 * t + k) % 64 = k by omega]) (fun k h hk e => hH t k h (by omega) hk e) (fun k hk => by
      cases u2 k <;> simp) ofV_M hA c (Nat.le_refl _)).2.2
    unfold vP
    dsimp only
    generalize it c (u2, u3) (vN H t) = s at j1 j2
    exact vQ_K hc2 hc hf hw (show t < P by omega) hP2 hcn hx (fun k hk => hnx t k (by omega) hk) j2 j1 (cn t) (Nat.le_refl _)
theorem orA_bt (hk : k < 64) : ∀ n, btL (it n 0 fun h s => s ||| F h) k = true ↔ ∃ h, h < n ∧ btL (F h) k = true
  | 0 => by
    rw [it_0, bt_0 hk]
    constructor
    · intro q; cases q
    · rintro ⟨h, hh, -⟩; exact absurd hh (Nat.not_lt_zero _)
  | n + 1 => by
    rw [it_s, bt_or hk, Bool.or_eq_true, orA_bt hk n]
    constructor
    · rintro (⟨h, h1, h2⟩ | h)
      · exact ⟨h, by omega, h2⟩
      · exact ⟨n, by omega, h⟩
    · rintro ⟨h, h1, h2⟩
      by_cases e : h = n
      · subst e; exact Or.inr h2
      · exact Or.inl ⟨h, by omega, h2⟩
theorem bg_at (hh : 4 * h + w < 256) (hw : w < 4) : ∀ t, bgE F ev E t (4 * h + w) = if w = 0 ∧ h < t then 0 + 100 * (popI (F h &&& (ev ^^^ -1))).toInt64 else 0
  | 0 => by rw [if_neg (by omega)]; exact if_pos hh
  | t + 1 => by
    have ih : bgE F ev E t (4 * h + w) = if w = 0 ∧ h < t then 0 + 100 * (popI (F h &&& (ev ^^^ -1))).toInt64 else 0 := bg_at hh hw t
    have e0 : bgE F ev E (t + 1) = up (bgE F ev E t) (4 * t + 0) (bgE F ev E t (4 * t + 0) + 100 * (popI (F t &&& (ev ^^^ -1))).toInt64) := rfl
    rw [e0]
    by_cases e : w = 0 ∧ h = t
    · obtain ⟨rfl, rfl⟩ := e
      rw [if_neg (by omega)] at ih
      rw [up_s, ih, if_pos (by omega)]
    · rw [up_n (by omega), ih]
      have : (w = 0 ∧ h < t) = (w = 0 ∧ h < t + 1) := by apply propext; omega
      simp only [this]
theorem g1_at (hc2 : c ≤ 64) (hHn : ∀ p k h, p < P → k < c → H p k = some h → h < cn p) (hHs : ∀ q h k, q < P → h < cn q → k < 64 → btL (Hs q h) k = decide (k < c ∧ H q k = some h)) : ∀ t, t ≤ P → (∀ k, k < 64 → btL (g1F cn Hs Ga t).1 k = (decide (k < c) && evB H t k)) ∧ ∀ q, q < t → ∃ ev E, (∀ k, k < 64 → btL ev k = (decide (k < c) && evB H q k)) ∧ (g1F cn Hs Ga t).2 q = bgE (Hs q) ev E (cn q)
  | 0, _ => ⟨fun k hk => by
      show btL 0 k = _
      rw [bt_0 hk]
      simp [evB], fun q hq => absurd hq (Nat.not_lt_zero _)⟩
  | t + 1, ht => by
    obtain ⟨i1, i2⟩ := g1_at hc2 hHn hHs t (by omega)
    have e0 : g1F cn Hs Ga (t + 1) = ((g1F cn Hs Ga t).1 ||| it (cn t) 0 (fun k s => s ||| Hs t k), gU (g1F cn Hs Ga t).2 t (bgE (Hs t) (g1F cn Hs Ga t).1 ((g1F cn Hs Ga t).2 t) (cn t))) := rfl
    rw [e0]
    refine ⟨fun k hk => ?_, fun q hq => ?_⟩
    · dsimp only
      rw [bt_or hk, i1 k hk]
      have e2 : btL (it (cn t) 0 (fun h s => s ||| Hs t h)) k = (decide (k < c) && (H t k).isSome) := by
        apply Bool.eq_iff_iff.mpr
        rw [orA_bt hk (cn t), Bool.and_eq_true, decide_eq_true_eq]
        constructor
        · rintro ⟨h, h1, h2⟩
          rw [hHs t h k (by omega) h1 hk] at h2
          obtain ⟨a1, a2⟩ := of_decide_eq_true h2
          exact ⟨a1, by rw [a2]; rfl⟩
        · rintro ⟨a1, a2⟩
          cases e : H t k with
          | none => rw [e] at a2; cases a2
          | some h =>
            have hh := hHn t k h (by omega) a1 e
            exact ⟨h, hh, by rw [hHs t h k (by omega) hh hk]; exact decide_eq_true ⟨a1, e⟩⟩
      rw [e2]
      show _ = (decide (k < c) && (evB H t k || (H t k).isSome))
      cases decide (k < c) <;> rfl
    · dsimp only
      by_cases e : q = t
      · subst e
        exact ⟨_, _, i1, gU_s⟩
      · obtain ⟨ev, E, h1, h2⟩ := i2 q (by omega)
        exact ⟨ev, E, h1, by rw [gU_n e]; exact h2⟩
theorem g1_Q (hc2 : c ≤ 64) (hcn : ∀ q, q < P → cn q ≤ 64) (hHn : ∀ p k h, p < P → k < c → H p k = some h → h < cn p) (hHs : ∀ q h k, q < P → h < cn q → k < 64 → btL (Hs q h) k = decide (k < c ∧ H q k = some h)) : vQ H cn c P 0 (g1F cn Hs Ga P).2 (fun _ _ => 0) := by
  intro q h w hq hh hw
  obtain ⟨ev, E, h1, h2⟩ := (g1_at (Ga := Ga) hc2 hHn hHs P (Nat.le_refl _)).2 q hq
  have h64 := hcn q hq
  rw [h2, bg_at (by omega) hw, Nat.zero_add]
  by_cases e : w = 0
  · rw [if_pos ⟨e, hh⟩, if_pos ⟨e, Nat.zero_le _⟩]
    have hp : popI (Hs q h &&& (ev ^^^ -1)) = nI (frN H c q h) := by
      rw [popI_n]
      congr 1
      have := ctB_cut (n := c) (p := btL (Hs q h &&& (ev ^^^ -1))) (q := fun k => decide (H q k = some h) && !evB H q k) (fun j hj => by
        rw [bt_and (by omega), bt_not (by omega), hHs q h j hq hh (by omega), h1 j (by omega), decide_eq_true hj, Bool.true_and]
        congr 1
        exact decide_eq_decide.mpr ⟨fun u => u.2, fun u => ⟨hj, u⟩⟩) (64 - c) (fun j a b => by
        rw [bt_and (by omega), hHs q h j hq hh (by omega), decide_eq_false (fun u => by omega)]; rfl)
      rw [show c + (64 - c) = 64 by omega] at this
      exact this
    have hf : frN H c q h ≤ 64 := Nat.le_trans (ctB_le c) hc2
    rw [hp, nI_ll (by omega), show (100 : Int64) = lZ (100 : Nat) from rfl, lY_mul, Int64.zero_add]
  · rw [if_neg (fun u => e u.1), if_neg (fun u => e u.1)]
    rfl
def kB (nx : Nat → Nat → Option (Nat × Nat)) (V : Nat → Nat → Nat) (p m s : Nat) : Nat := it m s fun h s => if nx p h = none then s + totN (V (64 * p + h)) else s
def kA (nx : Nat → Nat → Option (Nat × Nat)) (cn : Nat → Nat) (V : Nat → Nat → Nat) (t : Nat) : Nat := it t 0 fun p s => kB nx V p (cn p) s
theorem kB_cong (h : ∀ n, n < 64 * p + m → V n = V2 n) {s : Nat} : kB nx V p m s = kB nx V2 p m s := it_cong fun k s hk => by rw [h _ (by omega)]
theorem kA_cong (hcn : ∀ q, q < t → cn q ≤ 64) (h : ∀ n, n < 64 * t → V n = V2 n) : kA nx cn V t = kA nx cn V2 t := it_cong fun p s hp => kB_cong fun n hn => h n (by have := hcn p hp; omega)
theorem kA_N (hcn : ∀ q, q < p → cn q ≤ 64) : kA nx cn (it c (B, V) (vN H p)).2 p = kA nx cn V p := kA_cong hcn fun n hn => by
  funext w
  rw [vN_V c, if_neg (by omega)]
  rfl
theorem kB_S (hx : ∀ k a b, k < m → nx p k = some (a, b) → p < a) (hm : m ≤ 64) (hcn : ∀ q, q < p → cn q ≤ 64) : ∀ t, t ≤ m → (it t (kA nx cn V p, V) (vS nx co fo wi p)).1 = kB nx (it t (kA nx cn V p, V) (vS nx co fo wi p)).2 p t (kA nx cn (it t (kA nx cn V p, V) (vS nx co fo wi p)).2 p)
  | 0, _ => rfl
  | t + 1, ht => by
    have ih := kB_S hx hm hcn t (by omega)
    rw [it_s]
    generalize it t (kA nx cn V p, V) (vS nx co fo wi p) = u at ih
    have e0 : ∀ (V : Nat → Nat → Nat) s, kB nx V p (t + 1) s = if nx p t = none then kB nx V p t s + totN (V (64 * p + t)) else kB nx V p t s := fun _ _ => rfl
    have hlow : ∀ n, n < 64 * p + t → (vS nx co fo wi p t u).2 n = u.2 n := fun n hn => by
      unfold vS
      cases e : nx p t with
      | none => show vC _ _ _ _ _ n = _; unfold vC; rw [up_n (by omega)]
      | some r =>
        obtain ⟨a, b⟩ := r
        have := hx t a b (by omega) e
        show vG _ _ _ n = _
        unfold vG vC
        rw [up_n (by omega), up_n (by omega)]
    have h1 : kA nx cn (vS nx co fo wi p t u).2 p = kA nx cn u.2 p := kA_cong hcn fun n hn => hlow n (by omega)
    have h2 : ∀ s, kB nx (vS nx co fo wi p t u).2 p t s = kB nx u.2 p t s := fun s => kB_cong fun n hn => hlow n hn
    rw [e0, h1, h2, ← ih]
    unfold vS
    cases e : nx p t with
    | none => rw [if_pos rfl]
    | some r => rw [if_neg (by simp)]
theorem vA_k (hP : P ≤ 12) (hcn : ∀ q, q < P → cn q ≤ 64) (hx : ∀ p k a b, p < P → k < cn p → nx p k = some (a, b) → p < a) : ∀ t, t ≤ P → (vA H cn nx co fo wi c t).1 = kA nx cn (vA H cn nx co fo wi c t).2.2 t
  | 0, _ => rfl
  | t + 1, ht => by
    have ih := vA_k hP hcn hx t (by omega)
    have e1 : vA H cn nx co fo wi c (t + 1) = vP H cn nx co fo wi c t (vA H cn nx co fo wi c t) := rfl
    rw [e1]
    generalize vA H cn nx co fo wi c t = u at ih
    obtain ⟨u1, u2, u3⟩ := u
    dsimp only at ih
    have hcn2 : ∀ q, q < t → cn q ≤ 64 := fun q hq => hcn q (by omega)
    have h1 := kA_N (c := c) (H := H) (nx := nx) (B := u2) (V := u3) (p := t) hcn2
    unfold vP
    dsimp only
    generalize it c (u2, u3) (vN H t) = s at h1
    rw [← h1] at ih
    rw [ih]
    have := kB_S (co := co) (fo := fo) (wi := wi) (V := s.2) (fun k a b hk e => hx t k a b (by omega) hk e) (hcn t (by omega)) hcn2 (cn t) (Nat.le_refl _)
    exact this
theorem at_z (hnx : ∀ p k, p < P → k < cn p → nx2 p k = nx p k) (hq : vQ H cn c P P Ga V) : atB cn nx2 Ga P = lZ (kA nx cn V P : Nat) := by
  refine it_rel (fun _ (u : Int64) (v : Nat) => u = lZ (v : Nat)) rfl fun p u v hp huv => ?_
  refine it_rel (fun _ (u : Int64) (v : Nat) => u = lZ (v : Nat)) huv fun k u v hk huv => ?_
  rw [hnx p k hp hk]
  by_cases e : nx p k = none
  · rw [if_pos e, if_pos e]
    have g : ∀ w, w < 4 → Ga p (4 * k + w) = lZ (V (64 * p + k) w : Nat) := fun w hw => by rw [hq p k w hp hk hw, if_neg (by omega)]; rfl
    show u + Ga p (4 * k + 0) + Ga p (4 * k + 1) + Ga p (4 * k + 2) + Ga p (4 * k + 3) = _
    rw [g 0 (by decide), g 1 (by decide), g 2 (by decide), g 3 (by decide), huv, lY_add, lY_add, lY_add, lY_add]
    congr 2
    unfold totN
    omega
  · rw [if_neg e, if_neg e]
    exact huv
end
