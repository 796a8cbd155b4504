section
variable {σ : Sg} {c l n a b s h x k t S p q m lo G : Nat} {I I2 : hf_I} {J J2 : hf_J} {g : hf_G} {R : Nat → Option Nat} {B B2 P2 : Nat → Bool} {P Q : Nat → Nat} {D D2 : Nat → Nat → Int64} {X Y U W U2 W2 f : Nat → Int64} {F : Nat → Int32} {v w b64 : Int64} {i j y z : Int32}
theorem smP_rm (hq : q < c) (h1 : B q = false) (h2 : ∀ m, m < c → m ≠ q → B2 m = B m) (h3 : B2 q = true) : smP c B2 f = smP c B f + f q := by
  have key : ∀ t, t ≤ c → smP t B2 f = smP t B f + if q < t then f q else 0 := by
    intro t
    induction t with
    | zero => intro _; rw [if_neg (by omega)]; rfl
    | succ t ih =>
      intro ht
      have e : smP (t + 1) B2 f = if B2 t = true then smP t B2 f + f t else smP t B2 f := rfl
      have e2 : smP (t + 1) B f = if B t = true then smP t B f + f t else smP t B f := rfl
      rw [e, e2, ih (by omega)]
      by_cases c1 : t = q
      · subst c1
        rw [if_pos h3, h1, if_neg (by omega), if_neg (by decide), if_pos (by omega), Int64.add_zero]
      · have e3 : (q < t + 1) = (q < t) := by apply propext; omega
        rw [h2 t (by omega) c1]
        simp only [e3]
        cases B t
        · simp only [Bool.false_eq_true, if_false]
        · simp only [if_true]
          rw [Int64.add_assoc, Int64.add_comm _ (f t), ← Int64.add_assoc]
  rw [key c (Nat.le_refl _), if_pos hq]
/-- the hold by those that are in and told so far -/
def hdQ (B : Nat → Bool) (Q : Nat → Nat → Bool) (D : Nat → Nat → Int64) (c k : Nat) : Int64 := smP c (fun m => B m && (!decide (m = k) && Q m k)) (D k)
def qLo (lo u m k : Nat) : Bool := decide ((m < lo ∨ k < lo) ∨ (m = lo ∧ k < u) ∨ (k = lo ∧ m < u))
theorem suN_i (hB : B = btL b64) (hD : ∀ a b, a < c → b < c → D a b = D b a) (hlo : lo < c) (hF : ∀ k, k < c → B k = true → U k = hdQ B (qLo lo (lo + 1)) D c k) : ∀ t, lo + 1 + t ≤ c → ∀ k, k < c → B k = true → suN c D b64 lo U t k = hdQ B (qLo lo (lo + 1 + t)) D c k
  | 0, _, k, hk, hb => hF k hk hb
  | t + 1, ht, k, hk, hb => by
    have ih := suN_i hB hD hlo hF t (by omega)
    rw [suN_s, ← hB]
    generalize suN c D b64 lo U t = V at ih
    by_cases c1 : (B lo && B (lo + (1 + t))) = true
    · rw [if_pos c1]
      simp only [Bool.and_eq_true] at c1
      unfold adH
      by_cases e1 : k = lo + (1 + t)
      · rw [e1, up_s, ih _ (by omega) c1.2, hD lo _ hlo (by omega)]
        refine (smP_rm (q := lo) hlo ?_ (fun m hm hne => ?_) ?_).symm
        · have : qLo lo (lo + 1 + t) lo (lo + (1 + t)) = false := decide_eq_false (by omega)
          rw [this, Bool.and_false, Bool.and_false]
        · have : qLo lo (lo + 1 + (t + 1)) m (lo + (1 + t)) = qLo lo (lo + 1 + t) m (lo + (1 + t)) := decide_eq_decide.mpr (by omega)
          rw [this]
        · have : qLo lo (lo + 1 + (t + 1)) lo (lo + (1 + t)) = true := decide_eq_true (by omega)
          rw [this, c1.1, decide_eq_false (show ¬ lo = lo + (1 + t) by omega)]
          rfl
      · rw [up_n e1]
        by_cases e2 : k = lo
        · rw [e2, up_s, ih lo hlo c1.1]
          refine (smP_rm (q := lo + (1 + t)) (by omega) ?_ (fun m hm hne => ?_) ?_).symm
          · have : qLo lo (lo + 1 + t) (lo + (1 + t)) lo = false := decide_eq_false (by omega)
            rw [this, Bool.and_false, Bool.and_false]
          · by_cases e3 : m = lo
            · rw [decide_eq_true e3]; simp
            · have : qLo lo (lo + 1 + (t + 1)) m lo = qLo lo (lo + 1 + t) m lo := decide_eq_decide.mpr (by omega)
              rw [this]
          · have : qLo lo (lo + 1 + (t + 1)) (lo + (1 + t)) lo = true := decide_eq_true (by omega)
            rw [this, c1.2, decide_eq_false (show ¬ lo + (1 + t) = lo by omega)]
            rfl
        · rw [up_n e2, ih k hk hb]
          refine smP_cong fun m hm => ⟨?_, fun _ => rfl⟩
          have : qLo lo (lo + 1 + t) m k = qLo lo (lo + 1 + (t + 1)) m k := decide_eq_decide.mpr (by omega)
          rw [this]
    · rw [if_neg c1, ih k hk hb]
      refine smP_cong fun m hm => ⟨?_, fun _ => rfl⟩
      cases hbm : B m
      · rfl
      · by_cases e3 : m = k
        · rw [decide_eq_true e3]; rfl
        · have : qLo lo (lo + 1 + t) m k = qLo lo (lo + 1 + (t + 1)) m k := by
            refine decide_eq_decide.mpr ?_
            have n1 : ¬ (m = lo ∧ k = lo + (1 + t)) := fun u => c1 (by rw [u.1] at hbm; rw [u.2] at hb; rw [hbm, hb]; rfl)
            have n2 : ¬ (k = lo ∧ m = lo + (1 + t)) := fun u => c1 (by rw [u.2] at hbm; rw [u.1] at hb; rw [hbm, hb]; rfl)
            omega
          rw [this]
theorem suA_i (hB : B = btL b64) (hD : ∀ a b, a < c → b < c → D a b = D b a) (hF : ∀ k, k < c → U k = 0) : ∀ t, t ≤ c → ∀ k, k < c → B k = true → suA c D b64 U t k = hdQ B (qLo t t) D c k
  | 0, _, k, hk, hb => by
    show U k = _
    rw [hF k hk]
    have e : hdQ B (qLo 0 0) D c k = smP c (fun _ => false) (D k) := smP_cong fun m hm => ⟨by
      have : qLo 0 0 m k = false := decide_eq_false (by omega)
      rw [this, Bool.and_false, Bool.and_false], fun _ => rfl⟩
    rw [e]
    have : ∀ n, smP n (fun _ => false) (D k) = 0 := by
      intro n
      induction n with
      | zero => rfl
      | succ n ih => exact ih
    exact (this c).symm
  | t + 1, ht, k, hk, hb => by
    have ih := suA_i hB hD hF t (by omega)
    have e : suA c D b64 U (t + 1) = suN c D b64 t (suA c D b64 U t) (c - (t + 1)) := rfl
    rw [e, suN_i hB hD (by omega) (fun k hk hb => (ih k hk hb).trans (smP_cong fun m hm => ⟨by
      by_cases e3 : m = k
      · rw [decide_eq_true e3]; simp
      · have : qLo t t m k = qLo t (t + 1) m k := decide_eq_decide.mpr (by omega)
        rw [this], fun _ => rfl⟩)) (c - (t + 1)) (by omega) k hk hb]
    refine smP_cong fun m hm => ⟨?_, fun _ => rfl⟩
    by_cases e3 : m = k
    · rw [decide_eq_true e3]; simp
    · have : qLo t (t + 1 + (c - (t + 1))) m k = qLo (t + 1) (t + 1) m k := decide_eq_decide.mpr (by omega)
      rw [this]
/-- the hold on k by all others that are in -/
def hoB (c : Nat) (D : Nat → Nat → Int64) (B : Nat → Bool) (k : Nat) : Int64 := smP c (fun m => B m && !decide (m = k)) (D k)
def cxS (c : Nat) (B : Nat → Bool) (U : Nat → Int64) : Int64 := by1 (smP c B U) (nI (ctB B c)).toInt64
def wS (c : Nat) (D : Nat → Nat → Int64) (U W : Nat → Int64) (B : Nat → Bool) (k : Nat) : Int64 := abL U W (hoB c D B) (cxS c B U) (cxS c B W) k
def lS (c : Nat) (D : Nat → Nat → Int64) (U W : Nat → Int64) (B : Nat → Bool) (t : Nat) : Int32 × Int64 := it t (-1, 0) fun k p => if (B k && decide (p.2 < wS c D U W B k)) = true then (nI k, wS c D U W B k) else p
def bS (c : Nat) (D : Nat → Nat → Int64) (U W : Nat → Int64) (B : Nat → Bool) : Nat → Bool := if (lS c D U W B c).1 = -1 then B else up B (lS c D U W B c).1.toNatClampNeg false
theorem lS_k : ∀ t, (lS c D U W B t).1 = -1 ∨ ∃ k, k < t ∧ B k = true ∧ (lS c D U W B t).1 = nI k
  | 0 => Or.inl rfl
  | t + 1 => by
    have e : lS c D U W B (t + 1) = if (B t && decide ((lS c D U W B t).2 < wS c D U W B t)) = true then (nI t, wS c D U W B t) else lS c D U W B t := rfl
    rw [e]
    by_cases c1 : (B t && decide ((lS c D U W B t).2 < wS c D U W B t)) = true
    · rw [if_pos c1]
      simp only [Bool.and_eq_true] at c1
      exact Or.inr ⟨t, by omega, c1.1, rfl⟩
    · rw [if_neg c1]
      rcases lS_k t with h | ⟨k, h1, h2, h3⟩
      · exact Or.inl h
      · exact Or.inr ⟨k, by omega, h2, h3⟩
/-- the class's state of it -/
def bdC (c : Nat) (D : Nat → Nat → Int64) (B : Nat → Bool) (p : Int64 × (Nat → Int64)) : Prop := (∀ k, k < 64 → btL p.1 k = (decide (k < c) && B k)) ∧ ∀ k, k < c → B k = true → p.2 k = hoB c D B k
theorem bt_lt {p : Int64 × (Nat → Int64)} (h : bdC c D B p) (hc2 : c ≤ 64) (hk : k < c) : btL p.1 k = B k := by rw [h.1 k (by omega), decide_eq_true hk]; rfl
theorem bd_pop {p : Int64 × (Nat → Int64)} (h : bdC c D B p) (hc2 : c ≤ 64) : popI p.1 = nI (ctB B c) := by
  rw [popI_n]
  congr 1
  have := ctB_cut (n := c) (p := btL p.1) (q := B) (fun j hj => bt_lt h hc2 hj) (64 - c) (fun j a b => by rw [h.1 j (by omega), decide_eq_false (by omega)]; rfl)
  rw [show c + (64 - c) = 64 by omega] at this
  exact this
theorem ls_C {p : Int64 × (Nat → Int64)} (h : bdC c D B p) (hc2 : c ≤ 64) (hU : ∀ k, k < c → U2 k = U k ∧ W2 k = W k) : lsK c U2 W2 p.2 p.1 = (lS c D U W B c).1 := by
  have e1 : smP c (btL p.1) U2 = smP c B U := smP_cong fun k hk => ⟨bt_lt h hc2 hk, fun _ => (hU k hk).1⟩
  have e2 : smP c (btL p.1) W2 = smP c B W := smP_cong fun k hk => ⟨bt_lt h hc2 hk, fun _ => (hU k hk).2⟩
  unfold lsK
  rw [e1, e2, bd_pop h hc2]
  refine congrArg Prod.fst (it_cong fun k x hk => ?_)
  rw [bt_lt h hc2 hk]
  cases hb : B k
  · rfl
  · have : abL U2 W2 p.2 (by1 (smP c B U) (nI (ctB B c)).toInt64) (by1 (smP c B W) (nI (ctB B c)).toInt64) k = wS c D U W B k := by
      unfold wS abL cxS
      rw [(hU k hk).1, (hU k hk).2, h.2 k hk hb]
    rw [this]
theorem tkF_at {b : Int64} : ∀ t, tkF D b m U t k = if k < t ∧ btL b k = true then U k + -D k m else U k
  | 0 => by rw [if_neg (by omega)]; rfl
  | t + 1 => by
    rw [tkF_s]
    by_cases c1 : btL b t = true
    · rw [if_pos c1]
      by_cases e : k = t
      · have ih : tkF D b m U t k = if k < t ∧ btL b k = true then U k + -D k m else U k := tkF_at t
        rw [if_neg (by omega)] at ih
        have g : up (tkF D b m U t) t (tkF D b m U t t + -D t m) k = tkF D b m U t k + -D k m := by rw [e, up_s]
        rw [g, ih, if_pos ⟨by omega, by rw [e]; exact c1⟩]
      · rw [up_n e, tkF_at t]
        have : (k < t + 1 ∧ btL b k = true) = (k < t ∧ btL b k = true) := by apply propext; constructor <;> (rintro ⟨u1, u2⟩; exact ⟨by omega, u2⟩)
        simp only [this]
    · rw [if_neg c1, tkF_at t]
      have : (k < t + 1 ∧ btL b k = true) = (k < t ∧ btL b k = true) := by
        apply propext
        constructor
        · rintro ⟨u1, u2⟩
          refine ⟨?_, u2⟩
          by_cases e : k = t
          · subst e; exact absurd u2 c1
          · omega
        · rintro ⟨u1, u2⟩; exact ⟨by omega, u2⟩
      simp only [this]
theorem bd_C {p : Int64 × (Nat → Int64)} (hc2 : c ≤ 64) (h : bdC c D B p) (hU : ∀ k, k < c → U2 k = U k ∧ W2 k = W k) (hD : ∀ a b, a < c → b < c → D2 a b = D a b) : bdC c D (bS c D U W B) (bdS c D2 U2 W2 p) := by
  unfold bdS bS
  rw [ls_C h hc2 hU]
  rcases lS_k (c := c) (D := D) (U := U) (W := W) (B := B) c with h1 | ⟨q, q1, q2, q3⟩
  · rw [if_pos h1, if_pos h1]
    exact h
  · have hn : ¬ (lS c D U W B c).1 = -1 := by rw [q3]; exact nI_m1n (by omega)
    rw [if_neg hn, if_neg hn, q3, nI_clamp (by omega)]
    have hb : ∀ k, k < 64 → btL (p.1 &&& (bitL q ^^^ -1)) k = (decide (k < c) && up B q false k) := fun k hk => by
      rw [bt_and hk, bt_not hk, bt_bit hk (by omega), h.1 k hk]
      by_cases e : k = q
      · rw [e, up_s, decide_eq_true (show q = q from rfl)]; simp
      · rw [up_n e, decide_eq_false e]; simp
    refine ⟨hb, fun k hk hk2 => ?_⟩
    dsimp only
    have hkq : ¬ k = q := fun e => by rw [e, up_s] at hk2; cases hk2
    rw [up_n hkq] at hk2
    rw [tkF_at, if_pos ⟨hk, by rw [hb k (by omega), decide_eq_true hk, up_n hkq, hk2]; rfl⟩, h.2 k hk hk2, hD k q hk q1]
    have e := smP_rm (c := c) (B := fun m => up B q false m && !decide (m = k)) (B2 := fun m => B m && !decide (m = k)) (f := D k) (q := q) q1 (by rw [up_s]; rfl) (fun m hm hne => by rw [up_n hne]) (by rw [q2, decide_eq_false (fun e => hkq e.symm)]; rfl)
    show smP c (fun m => B m && !decide (m = k)) (D k) + -D k q = smP c (fun m => up B q false m && !decide (m = k)) (D k)
    rw [e, Int64.add_assoc, Int64.add_right_neg, Int64.add_zero]
def DS (G : Nat) (P Q : Nat → Nat) (a b : Nat) : Int64 := lZ ((64 * G : Nat) / (1 + farN P Q a b) : Nat)
theorem DS_sym : DS G P Q a b = DS G P Q b a := by
  unfold DS farN qZ sqZ
  rw [wy_sq (P a) (P b), wy_sq (Q a) (Q b)]
theorem hd_S (hG : G ≤ 10000) (ha : X a = lZ (P a) ∧ Y a = lZ (Q a) ∧ P a < 4096 ∧ Q a < 4096) (hb : X b = lZ (P b) ∧ Y b = lZ (Q b) ∧ P b < 4096 ∧ Q b < 4096) : hdL (lZ G) X Y a b = DS G P Q a b := by
  obtain ⟨a1, a2, a3, a4⟩ := ha
  obtain ⟨b1, b2, b3, b4⟩ := hb
  obtain ⟨q, h1, h2⟩ := qZ_n (X := P) (Y := Q) (a := a) (b := b)
  have hf := far_le (X := P) (Y := Q) (a := a) (b := b)
  have e : farL X Y a b = lZ (farN P Q a b) := by
    unfold farL farN
    rw [a1, a2, b1, b2, wayL_z ⟨by omega, by omega⟩ ⟨by omega, by omega⟩, wayL_z ⟨by omega, by omega⟩ ⟨by omega, by omega⟩, sqL_z]
    show rtL (lZ (qZ P Q a b)) 12 = _
    rw [h1]
    exact (rt_eq h2).1
  unfold hdL DS
  rw [e]
  generalize farN P Q a b = r at hf
  rw [show (64 : Int64) = lZ 64 from rfl, show (1 : Int64) = lZ 1 from rfl, lZ_mul, lZ_add]
  unfold by0
  rw [if_neg (by rw [show (0 : Int64) = lZ 0 from rfl, lZ_eq (lRs (by omega) (by omega)) (lRs (by omega) (by omega))]; omega), lZ_div (lRs (by omega) (by omega)) (lRs (by omega) (by omega)) (by omega), td_pos (by omega)]
  congr 1
/-- the bound grains -/
def bnd (σ : Sg) (s : Nat) (R : Nat → Option Nat) (h t : Nat) : Nat → Bool := it t (fun k => decide (R k = some h)) fun _ B => bS (sN σ) (DS (sq σ 3) (sX σ s) (sY σ s)) (sU σ s) (sW σ s) B
theorem sok_3 (hσ : SOK σ) : sq σ 3 ≤ 10000 := (sok_r hσ (i := 3) (by decide)).2
theorem bnd_c (hσ : SOK σ) (hs : sl σ s) (hC : RC σ I J) (hS : gA s = S + 1) : ∀ t, bdC (sN σ) (DS (sq σ 3) (sX σ s) (sY σ s)) (bnd σ s R h t) (bdF (sN σ) (hdL (J 238 0) (J (S + 3)) (J (S + 5))) (J (S + 7)) (J (S + 9)) (gbS R (sN σ) h) (suA (sN σ) (hdL (J 238 0) (J (S + 3)) (J (S + 5))) (gbS R (sN σ) h) (zeR J 256 64) (sN σ)) t) := by
  have hN := sok_N hσ
  obtain ⟨g1, g2⟩ := hC.2.1 s hs
  rw [hS] at g2
  have hD : ∀ a b, a < sN σ → b < sN σ → hdL (J 238 0) (J (S + 3)) (J (S + 5)) a b = DS (sq σ 3) (sX σ s) (sY σ s) a b := fun a b ha hb => by
    rw [(RC_pl hC).1]
    obtain ⟨r1, r2⟩ := hσ.2.1 s a hs ha
    obtain ⟨r3, r4⟩ := hσ.2.1 s b hs hb
    exact hd_S (sok_3 hσ) ⟨(g2 a ha).1, (g2 a ha).2.1, r1, r2⟩ ⟨(g2 b hb).1, (g2 b hb).2.1, r3, r4⟩
  intro t
  induction t with
  | zero =>
    refine ⟨fun k hk => ?_, fun k hk hb => ?_⟩
    · show btL (gbS R (sN σ) h) k = (decide (k < sN σ) && decide (R k = some h))
      rw [gbS_bt hN.2 hk, Bool.decide_and]
    · have hb2 : decide (R k = some h) = true := hb
      show suA (sN σ) (hdL (J 238 0) (J (S + 3)) (J (S + 5))) (gbS R (sN σ) h) (zeR J 256 64) (sN σ) k = hoB (sN σ) (DS (sq σ 3) (sX σ s) (sY σ s)) (fun k => decide (R k = some h)) k
      rw [suA_i (D := hdL (J 238 0) (J (S + 3)) (J (S + 5))) (U := zeR J 256 64) (b64 := gbS R (sN σ) h) (B := btL (gbS R (sN σ) h)) rfl (fun a b ha hb => by rw [hD a b ha hb, hD b a hb ha]; exact DS_sym) (fun k hk => if_pos (by omega)) (sN σ) (Nat.le_refl _) k hk (by rw [gbS_bt hN.2 (by omega)]; exact decide_eq_true ⟨hk, of_decide_eq_true hb2⟩)]
      refine smP_cong fun m hm => ⟨?_, fun _ => hD k m hk hm⟩
      rw [gbS_bt hN.2 (by omega)]
      have e1 : qLo (sN σ) (sN σ) m k = true := decide_eq_true (by omega)
      rw [e1, Bool.and_true]
      have e2 : decide (m < sN σ ∧ R m = some h) = decide (R m = some h) := decide_eq_decide.mpr ⟨fun u => u.2, fun u => ⟨hm, u⟩⟩
      rw [e2]
  | succ t ih => exact bd_C hN.2 ih (fun k hk => ⟨(g2 k hk).2.2.1, (g2 k hk).2.2.2⟩) hD
end
