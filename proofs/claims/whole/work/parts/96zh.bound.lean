/-! BOUND GRAINS -/
section
variable {σ : Sg} {c l n a b s h x k t S p q m lo G : Nat} {I I2 : hf_I} {J J2 : hf_J} {g : hf_G} {R : Nat → Option Nat} {B B2 P2 : Nat → Bool} {P Q : Nat → Nat} {D D2 : Nat → Nat → Int64} {X Y U W U2 W2 f : Nat → Int64} {F : Nat → Int32} {v w b64 : Int64} {i j y z : Int32}
theorem smP_rm (hq : q < c) (h1 : B q = false) (h2 : ∀ m, m < c → m ≠ q → B2 m = B m) (h3 : B2 q = true) : smP c B2 f = smP c B f + f q := by
  have key : ∀ t, t ≤ c → smP t B2 f = smP t B f + if q < t then f q else 0 := by
    intro t
    induction t with
    | zero => intro _; rw [if_neg (by omega)]; rfl
    | succ t ih =>
      intro ht
      have e : smP (t + 1) B2 f = if B2 t = true then smP t B2 f + f t else smP t B2 f := rfl
      have e2 : smP (t + 1) B f = if B t = true then smP t B f + f t else smP t B f := rfl
      rw [e, e2, ih (by omega)]
      by_cases c1 : t = q
      · subst c1
        rw [if_pos h3, h1, if_neg (by omega), if_neg (by decide), if_pos (by omega), Int64.add_zero]
      · have e3 : (q < t + 1) = (q < t) := by apply propext; omega
        rw [h2 t (by omega) c1]
        simp only [e3]
        cases B t
        · simp only [Bool.false_eq_true, if_false]
        · simp only [if_true]
          rw [Int64.add_assoc, Int64.add_comm _ (f t), ← Int64.add_assoc]
  rw [key c (Nat.le_refl _), if_pos hq]
/-- the hold by those that are in and told so far -/
def hdQ (B : Nat → Bool) (Q : Nat → Nat → Bool) (D : Nat → Nat → Int64) (c k : Nat) : Int64 := smP c (fun m => B m && (!decide (m = k) && Q m k)) (D k)
def qLo (lo u m k : Nat) : Bool := decide ((m < lo ∨ k < lo) ∨ (m = lo ∧ k < u) ∨ (k = lo ∧ m < u))
theorem suN_i (hB : B = btL b64) (hD : ∀ a b, a < c → b < c → D a b = D b a) (hlo : lo < c) (hF : ∀ k, k < c → B k = true → U k = hdQ B (qLo lo (lo + 1)) D c k) : ∀ t, lo + 1 + t ≤ c → ∀ k, k < c → B k = true → suN c D b64 lo U t k = hdQ B (qLo lo (lo + 1 + t)) D c k
  | 0, _, k, hk, hb => hF k hk hb
  | t + 1, ht, k, hk, hb => by
    have ih := suN_i hB hD hlo hF t (by omega)
    rw [suN_s, ← hB]
    generalize suN c D b64 lo U t = V at ih
    by_cases c1 : (B lo && B (lo + (1 + t))) = true
    · rw [if_pos c1]
      simp only [Bool.and_eq_true] at c1
      unfold adH
      by_cases e1 : k = lo + (1 + t)
      · rw [e1, up_s, ih _ (by omega) c1.2, hD lo _ hlo (by omega)]
        refine (smP_rm (q := lo) hlo ?_ (fun m hm hne => ?_) ?_).symm
        · have : qLo lo (lo + 1 + t) lo (lo + (1 + t)) = false := decide_eq_false (by omega)
          rw [this, Bool.and_false, Bool.and_false]
        · have : qLo lo (lo + 1 + (t + 1)) m (lo + (1 + t)) = qLo lo (lo + 1 + t) m (lo + (1 + t)) := decide_eq_decide.mpr (by omega)
          rw [this]
        · have : qLo lo (lo + 1 + (t + 1)) lo (lo + (1 + t)) = true := decide_eq_true (by omega)
          rw [this, c1.1, decide_eq_false (show ¬ lo = lo + (1 + t) by omega)]
          rfl
      · rw [up_n e1]
        by_cases e2 : k = lo
        · rw [e2, up_s, ih lo hlo c1.1]
          refine (smP_rm (q := lo + (1 + t)) (by omega) ?_ (fun m hm hne => ?_) ?_).symm
          · have : qLo lo (lo + 1 + t) (lo + (1 + t)) lo = false := decide_eq_false (by omega)
            rw [this, Bool.and_false, Bool.and_false]
          · by_cases e3 : m = lo
            · rw [decide_eq_true e3]; simp
            · have : qLo lo (lo + 1 + (t + 1)) m lo = qLo lo (lo + 1 + t) m lo := decide_eq_decide.mpr (by omega)
              rw [this]
          · have : qLo lo (lo + 1 + (t + 1)) (lo + (1 + t)) lo = true := decide_eq_true (by omega)
            rw [this, c1.2, decide_eq_false (show ¬ lo + (1 + t) = lo by omega)]
            rfl
        · rw [up_n e2, ih k hk hb]
          refine smP_cong fun m hm => ⟨?_, fun _ => rfl⟩
          have : qLo lo (lo + 1 + t) m k = qLo lo (lo + 1 + (t + 1)) m k := decide_eq_decide.mpr (by omega)
          rw [this]
    · rw [if_neg c1, ih k hk hb]
      refine smP_cong fun m hm => ⟨?_, fun _ => rfl⟩
      cases hbm : B m
      · rfl
      · by_cases e3 : m = k
        · rw [decide_eq_true e3]; rfl
        · have : qLo lo (lo + 1 + t) m k = qLo lo (lo + 1 + (t + 1)) m k := by
            refine decide_eq_decide.mpr ?_
            have n1 : ¬ (m = lo ∧ k = lo + (1 + t)) := fun u => c1 (by rw [u.1] at hbm; rw [u.2] at hb; rw [hbm, hb]; rfl)
            have n2 : ¬ (k = lo ∧ m = lo + (1 + t)) := fun u => c1 (by rw [u.2] at hbm; rw [u.1] at hb; rw [hbm, hb]; rfl)
            omega
          rw [this]
theorem suA_i (hB : B = btL b64) (hD : ∀ a b, a < c → b < c → D a b = D b a) (hF : ∀ k, k < c → U k = 0) : ∀ t, t ≤ c → ∀ k, k < c → B k = true → suA c D b64 U t k = hdQ B (qLo t t) D c k
  | 0, _, k, hk, hb => by
    show U k = _
    rw [hF k hk]
    have e : hdQ B (qLo 0 0) D c k = smP c (fun _ => false) (D k) := smP_cong fun m hm => ⟨by
      have : qLo 0 0 m k = false := decide_eq_false (by omega)
      rw [this, Bool.and_false, Bool.and_false], fun _ => rfl⟩
    rw [e]
    have : ∀ n, smP n (fun _ => false) (D k) = 0 := by
      intro n
      induction n with
      | zero => rfl
      | succ n ih => exact ih
    exact (this c).symm
  | t + 1, ht, k, hk, hb => by
    have ih := suA_i hB hD hF t (by omega)
    have e : suA c D b64 U (t + 1) = suN c D b64 t (suA c D b64 U t) (c - (t + 1)) := rfl
    rw [e, suN_i hB hD (by omega) (fun k hk hb => (ih k hk hb).trans (smP_cong fun m hm => ⟨by
      by_cases e3 : m = k
      · rw [decide_eq_true e3]; simp
      · have : qLo t t m k = qLo t (t + 1) m k := decide_eq_decide.mpr (by omega)
        rw [this], fun _ => rfl⟩)) (c - (t + 1)) (by omega) k hk hb]
    refine smP_cong fun m hm => ⟨?_, fun _ => rfl⟩
    by_cases e3 : m = k
    · rw [decide_eq_true e3]; simp
    · have : qLo t (t + 1 + (c - (t + 1))) m k = qLo (t + 1) (t + 1) m k := decide_eq_decide.mpr (by omega)
      rw [this]
/-- the hold on k by all others that are in -/
def hoB (c : Nat) (D : Nat → Nat → Int64) (B : Nat → Bool) (k : Nat) : Int64 := smP c (fun m => B m && !decide (m = k)) (D k)
def cxS (c : Nat) (B : Nat → Bool) (U : Nat → Int64) : Int64 := by1 (smP c B U) (nI (ctB B c)).toInt64
def wS (c : Nat) (D : Nat → Nat → Int64) (U W : Nat → Int64) (B : Nat → Bool) (k : Nat) : Int64 := abL U W (hoB c D B) (cxS c B U) (cxS c B W) k
def lS (c : Nat) (D : Nat → Nat → Int64) (U W : Nat → Int64) (B : Nat → Bool) (t : Nat) : Int32 × Int64 := it t (-1, 0) fun k p => if (B k && decide (p.2 < wS c D U W B k)) = true then (nI k, wS c D U W B k) else p
def bS (c : Nat) (D : Nat → Nat → Int64) (U W : Nat → Int64) (B : Nat → Bool) : Nat → Bool := if (lS c D U W B c).1 = -1 then B else up B (lS c D U W B c).1.toNatClampNeg false
theorem lS_k : ∀ t, (lS c D U W B t).1 = -1 ∨ ∃ k, k < t ∧ B k = true ∧ (lS c D U W B t).1 = nI k
  | 0 => Or.inl rfl
  | t + 1 => by
    have e : lS c D U W B (t + 1) = if (B t && decide ((lS c D U W B t).2 < wS c D U W B t)) = true then (nI t, wS c D U W B t) else lS c D U W B t := rfl
    rw [e]
    by_cases c1 : (B t && decide ((lS c D U W B t).2 < wS c D U W B t)) = true
    · rw [if_pos c1]
      simp only [Bool.and_eq_true] at c1
      exact Or.inr ⟨t, by omega, c1.1, rfl⟩
    · rw [if_neg c1]
      rcases lS_k t with h | ⟨k, h1, h2, h3⟩
      · exact Or.inl h
      · exact Or.inr ⟨k, by omega, h2, h3⟩
/-- the class's state of it -/
def bdC (c : Nat) (D : Nat → Nat → Int64) (B : Nat → Bool) (p : Int64 × (Nat → Int64)) : Prop := (∀ k, k < 64 → btL p.1 k = (decide (k < c) && B k)) ∧ ∀ k, k < c → B k = true → p.2 k = hoB c D B k
theorem bt_lt {p : Int64 × (Nat → Int64)} (h : bdC c D B p) (hc2 : c ≤ 64) (hk : k < c) : btL p.1 k = B k := by rw [h.1 k (by omega), decide_eq_true hk]; rfl
theorem bd_pop {p : Int64 × (Nat → Int64)} (h : bdC c D B p) (hc2 : c ≤ 64) : popI p.1 = nI (ctB B c) := by
  rw [popI_n]
  congr 1
  have := ctB_cut (n := c) (p := btL p.1) (q := B) (fun j hj => bt_lt h hc2 hj) (64 - c) (fun j a b => by rw [h.1 j (by omega), decide_eq_false (by omega)]; rfl)
  rw [show c + (64 - c) = 64 by omega] at this
  exact this
theorem ls_C {p : Int64 × (Nat → Int64)} (h : bdC c D B p) (hc2 : c ≤ 64) (hU : ∀ k, k < c → U2 k = U k ∧ W2 k = W k) : lsK c U2 W2 p.2 p.1 = (lS c D U W B c).1 := by
  have e1 : smP c (btL p.1) U2 = smP c B U := smP_cong fun k hk => ⟨bt_lt h hc2 hk, fun _ => (hU k hk).1⟩
  have e2 : smP c (btL p.1) W2 = smP c B W := smP_cong fun k hk => ⟨bt_lt h hc2 hk, fun _ => (hU k hk).2⟩
  unfold lsK
  rw [e1, e2, bd_pop h hc2]
  refine congrArg Prod.fst (it_cong fun k x hk => ?_)
  rw [bt_lt h hc2 hk]
  cases hb : B k
  · rfl
  · have : abL U2 W2 p.2 (by1 (smP c B U) (nI (ctB B c)).toInt64) (by1 (smP c B W) (nI (ctB B c)).toInt64) k = wS c D U W B k := by
      unfold wS abL cxS
      rw [(hU k hk).1, (hU k hk).2, h.2 k hk hb]
    rw [this]
theorem tkF_at {b : Int64} : ∀ t, tkF D b m U t k = if k < t ∧ btL b k = true then U k + -D k m else U k
  | 0 => by rw [if_neg (by omega)]; rfl
  | t + 1 => by
    rw [tkF_s]
    by_cases c1 : btL b t = true
    · rw [if_pos c1]
      by_cases e : k = t
      · have ih : tkF D b m U t k = if k < t ∧ btL b k = true then U k + -D k m else U k := tkF_at t
        rw [if_neg (by omega)] at ih
        have g : up (tkF D b m U t) t (tkF D b m U t t + -D t m) k = tkF D b m U t k + -D k m := by rw [e, up_s]
        rw [g, ih, if_pos ⟨by omega, by rw [e]; exact c1⟩]
      · rw [up_n e, tkF_at t]
        have : (k < t + 1 ∧ btL b k = true) = (k < t ∧ btL b k = true) := by apply propext; constructor <;> (rintro ⟨u1, u2⟩; exact ⟨by omega, u2⟩)
        simp only [this]
    · rw [if_neg c1, tkF_at t]
      have : (k < t + 1 ∧ btL b k = true) = (k < t ∧ btL b k = true) := by
        apply propext
        constructor
        · rintro ⟨u1, u2⟩
          refine ⟨?_, u2⟩
          by_cases e : k = t
          · subst e; exact absurd u2 c1
          · omega
        · rintro ⟨u1, u2⟩; exact ⟨by omega, u2⟩
      simp only [this]
theorem bd_C {p : Int64 × (Nat → Int64)} (hc2 : c ≤ 64) (h : bdC c D B p) (hU : ∀ k, k < c → U2 k = U k ∧ W2 k = W k) (hD : ∀ a b, a < c → b < c → D2 a b = D a b) : bdC c D (bS c D U W B) (bdS c D2 U2 W2 p) := by
  unfold bdS bS
  rw [ls_C h hc2 hU]
  rcases lS_k (c := c) (D := D) (U := U) (W := W) (B := B) c with h1 | ⟨q, q1, q2, q3⟩
  · rw [if_pos h1, if_pos h1]
    exact h
  · have hn : ¬ (lS c D U W B c).1 = -1 := by rw [q3]; exact nI_m1n (by omega)
    rw [if_neg hn, if_neg hn, q3, nI_clamp (by omega)]
    have hb : ∀ k, k < 64 → btL (p.1 &&& (bitL q ^^^ -1)) k = (decide (k < c) && up B q false k) := fun k hk => by
      rw [bt_and hk, bt_not hk, bt_bit hk (by omega), h.1 k hk]
      by_cases e : k = q
      · rw [e, up_s, decide_eq_true (show q = q from rfl)]; simp
      · rw [up_n e, decide_eq_false e]; simp
    refine ⟨hb, fun k hk hk2 => ?_⟩
    dsimp only
    have hkq : ¬ k = q := fun e => by rw [e, up_s] at hk2; cases hk2
    rw [up_n hkq] at hk2
    rw [tkF_at, if_pos ⟨hk, by rw [hb k (by omega), decide_eq_true hk, up_n hkq, hk2]; rfl⟩, h.2 k hk hk2, hD k q hk q1]
    have e := smP_rm (c := c) (B := fun m => up B q false m && !decide (m = k)) (B2 := fun m => B m && !decide (m = k)) (f := D k) (q := q) q1 (by rw [up_s]; rfl) (fun m hm hne => by rw [up_n hne]) (by rw [q2, decide_eq_false (fun e => hkq e.symm)]; rfl)
    show smP c (fun m => B m && !decide (m = k)) (D k) + -D k q = smP c (fun m => up B q false m && !decide (m = k)) (D k)
    rw [e, Int64.add_assoc, Int64.add_right_neg, Int64.add_zero]
/-- the model's -/
def bdM (c : Nat) (B : Nat → Bool) (F : Nat → Int32) : Prop := ∀ k, k < c → (F k = 0) = (B k = false)
def DS (G : Nat) (P Q : Nat → Nat) (a b : Nat) : Int64 := lZ ((64 * G : Nat) / (1 + farN P Q a b) : Nat)
theorem DS_sym : DS G P Q a b = DS G P Q b a := by
  unfold DS farN qZ sqZ
  rw [wy_sq (P a) (P b), wy_sq (Q a) (Q b)]
theorem hd_S (hG : G ≤ 10000) (ha : X a = lZ (P a) ∧ Y a = lZ (Q a) ∧ P a < 4096 ∧ Q a < 4096) (hb : X b = lZ (P b) ∧ Y b = lZ (Q b) ∧ P b < 4096 ∧ Q b < 4096) : hdL (lZ G) X Y a b = DS G P Q a b := by
  obtain ⟨a1, a2, a3, a4⟩ := ha
  obtain ⟨b1, b2, b3, b4⟩ := hb
  obtain ⟨q, h1, h2⟩ := qZ_n (X := P) (Y := Q) (a := a) (b := b)
  have hf := far_le (X := P) (Y := Q) (a := a) (b := b)
  have e : farL X Y a b = lZ (farN P Q a b) := by
    unfold farL farN
    rw [a1, a2, b1, b2, wayL_z ⟨by omega, by omega⟩ ⟨by omega, by omega⟩, wayL_z ⟨by omega, by omega⟩ ⟨by omega, by omega⟩, sqL_z]
    show rtL (lZ (qZ P Q a b)) 12 = _
    rw [h1]
    exact (rt_eq h2).1
  unfold hdL DS
  rw [e]
  generalize farN P Q a b = r at hf
  rw [show (64 : Int64) = lZ 64 from rfl, show (1 : Int64) = lZ 1 from rfl, lZ_mul, lZ_add]
  unfold by0
  rw [if_neg (by rw [show (0 : Int64) = lZ 0 from rfl, lZ_eq (lRs (by omega) (by omega)) (lRs (by omega) (by omega))]; omega), lZ_div (lRs (by omega) (by omega)) (lRs (by omega) (by omega)) (by omega), td_pos (by omega)]
  congr 1
theorem ho_M (h : RWs I J s c P Q U W) (hB : bdM c B (I 281)) (hGI : I 270 3 = nI G) (hG : G ≤ 10000) (hk : k < c) : hoM I s k c = hoB c (DS G P Q) B k := by
  refine it_cong fun m z hm => ?_
  have e := hB m hm
  have hf := far_le (X := P) (Y := Q) (a := k) (b := m)
  show _ = if (B m && !decide (m = k)) = true then z + DS G P Q k m else z
  by_cases c1 : B m = false
  · rw [if_pos (e.mpr c1), c1, if_neg (by simp), Int64.add_zero]
  · have c2 : B m = true := by cases hb : B m; · exact absurd hb c1
                               · rfl
    rw [if_neg (fun u => c1 (e.mp u)), c2]
    by_cases c3 : m = k
    · rw [if_pos c3, decide_eq_true c3, if_neg (by simp), Int64.add_zero]
    · rw [if_neg c3, decide_eq_false c3, if_pos (by simp)]
      congr 1
      obtain ⟨h1, h2, -, -, h3, h4⟩ := h k hk
      obtain ⟨g1, g2, -, -, g3, g4⟩ := h m hm
      have ea : rtN (apI I s k m) 13 = farN P Q k m := by
        unfold apI farN
        rw [h1, h2, g1, g2, nI_iZ, nI_iZ, nI_iZ, nI_iZ, wyI_z ⟨by omega, by omega⟩ ⟨by omega, by omega⟩, wyI_z ⟨by omega, by omega⟩ ⟨by omega, by omega⟩, sqI_z]
        rfl
      rw [ea, hGI]
      unfold DS
      generalize farN P Q k m = r at hf
      have hd : 64 * G / (1 + r) ≤ 64 * G := Nat.div_le_self _ _
      rw [show (64 : Int32) = nI 64 from rfl, show (1 : Int32) = nI 1 from rfl, nI_mul, nI_add, nI_dv (by omega) (by omega), nI_ll (by omega)]
theorem wt_M (h : RWs I J s c P Q U W) (hB : bdM c B (I 281)) : wtM I J s c = (smP c B U, smP c B W, nI (ctB B c)) := by
  have key : ∀ t, t ≤ c → wtM I J s t = (smP t B U, smP t B W, nI (ctB B t)) := by
    intro t
    induction t with
    | zero => intro _; rfl
    | succ t ih =>
      intro ht
      have e := hB t (by omega)
      obtain ⟨-, -, h3, h4, -, -⟩ := h t (by omega)
      have e1 : smP (t + 1) B U = if B t = true then smP t B U + U t else smP t B U := rfl
      have e2 : smP (t + 1) B W = if B t = true then smP t B W + W t else smP t B W := rfl
      have e0 : wtM I J s (t + 1) = if I 281 t = 0 then ((wtM I J s t).1 + 0, (wtM I J s t).2.1 + 0, (wtM I J s t).2.2 + 0) else ((wtM I J s t).1 + J 273 (64 * s + t), (wtM I J s t).2.1 + J 274 (64 * s + t), (wtM I J s t).2.2 + 1) := rfl
      rw [e0, ih (by omega), e1, e2, ctB_s, h3, h4]
      dsimp only
      cases hb : B t
      · rw [if_pos (e.mpr hb), if_neg (by decide), if_neg (by decide), if_neg (by decide), Int64.add_zero, Int64.add_zero, Int32.add_zero]
      · rw [if_neg (fun u => by have := e.mp u; rw [hb] at this; cases this), if_pos rfl, if_pos rfl, if_pos rfl, z_1]
  exact key c (Nat.le_refl _)
theorem ws_M (hc2 : c ≤ 64) (h : RWs I J s c P Q U W) (hB : bdM c B (I 281)) (hGI : I 270 3 = nI G) (hG : G ≤ 10000) : (wsM I J s c).2 = (lS c (DS G P Q) U W B c).1 := by
  have hct : ctB B c ≤ 64 := Nat.le_trans (ctB_le c) hc2
  have hwo : ∀ k, k < c → woM I J s c k = if B k = true then (if wS c (DS G P Q) U W B k ≤ 0 then 0 else wS c (DS G P Q) U W B k) else 0 := fun k hk => by
    have e := hB k hk
    unfold woM
    cases hb : B k
    · rw [if_pos (e.mpr hb), if_neg (by decide)]
    · rw [if_neg (fun u => by have := e.mp u; rw [hb] at this; cases this), if_pos rfl, wt_M h hB]
      dsimp only
      have hp : 0 < ctB B c := ctB_pos (k := k) hb c hk
      rw [← by1_dw hp hct, ← by1_dw hp hct]
      unfold ovM
      rw [ho_M h hB hGI hG hk, (h k hk).2.2.1, (h k hk).2.2.2.1]
      rfl
  have key : ∀ t, t ≤ c → (it t ((0 : Int64), (-1 : Int32)) fun k p => if woM I J s c k ≤ p.1 then p else (woM I J s c k, nI k)) = ((lS c (DS G P Q) U W B t).2, (lS c (DS G P Q) U W B t).1) ∧ 0 ≤ (lS c (DS G P Q) U W B t).2 := by
    intro t
    induction t with
    | zero => intro _; exact ⟨rfl, Int64.le_refl _⟩
    | succ t ih =>
      intro ht
      obtain ⟨i1, i2⟩ := ih (by omega)
      have e : lS c (DS G P Q) U W B (t + 1) = if (B t && decide ((lS c (DS G P Q) U W B t).2 < wS c (DS G P Q) U W B t)) = true then (nI t, wS c (DS G P Q) U W B t) else lS c (DS G P Q) U W B t := rfl
      rw [it_s, i1, e, hwo t (by omega)]
      dsimp only
      generalize lS c (DS G P Q) U W B t = p at i2
      generalize wS c (DS G P Q) U W B t = w
      cases hb : B t
      · simp only [Bool.false_eq_true, if_false, Bool.false_and]
        rw [if_pos i2]
        exact ⟨rfl, i2⟩
      · rw [if_pos rfl]
        by_cases c1 : p.2 < w
        · have c2 : ¬ w ≤ 0 := by
            rw [Int64.le_iff_toInt_le] at i2 ⊢
            rw [Int64.lt_iff_toInt_lt] at c1
            omega
          have c3 : ¬ w ≤ p.2 := by
            rw [Int64.le_iff_toInt_le]
            rw [Int64.lt_iff_toInt_lt] at c1
            omega
          rw [if_neg c2, if_neg c3, if_pos (by rw [decide_eq_true c1]; rfl)]
          exact ⟨rfl, by show 0 ≤ w; rw [Int64.le_iff_toInt_le] at c2 ⊢; omega⟩
        · have c3 : w ≤ p.2 := L_le c1
          have c4 : (if w ≤ 0 then 0 else w) ≤ p.2 := by
            split
            · exact i2
            · exact c3
          rw [if_pos c4, if_neg (by rw [decide_eq_false c1]; simp)]
          exact ⟨rfl, i2⟩
  have h1 := (key c (Nat.le_refl _)).1
  show (it c ((0 : Int64), (-1 : Int32)) fun k p => if woM I J s c k ≤ p.1 then p else (woM I J s c k, nI k)).2 = _
  rw [h1]
theorem bd_M (hc2 : c ≤ 64) (h : RWs I J s c P Q U W) (hB : bdM c B F) (hGI : I 270 3 = nI G) (hG : G ≤ 10000) : bdM c (bS c (DS G P Q) U W B) (bnS I J s c F) := by
  have hw : RWs (hf_w I 281 F) J s c P Q U W := fun k hk => by
    rw [kw_ne (by decide), kw_ne (by decide)]
    exact h k hk
  have e : bnW I J s c F = (lS c (DS G P Q) U W B c).1 := ws_M hc2 hw (by rw [kw_row]; exact hB) (by rw [kw_ne (by decide)]; exact hGI) hG
  unfold bnS bS
  rw [e]
  rcases lS_k (c := c) (D := DS G P Q) (U := U) (W := W) (B := B) c with h1 | ⟨q, q1, q2, q3⟩
  · rw [if_pos h1, if_pos h1]
    exact hB
  · have hn : ¬ (lS c (DS G P Q) U W B c).1 = -1 := by rw [q3]; exact nI_m1n (by omega)
    rw [if_neg hn, if_neg hn, q3, nI_clamp (by omega)]
    intro k hk
    by_cases e2 : k = q
    · rw [e2, up_s, up_s]; simp
    · rw [up_n e2, up_n e2]; exact hB k hk
/-- the bound grains -/
def bnd (σ : Sg) (s : Nat) (R : Nat → Option Nat) (h t : Nat) : Nat → Bool := it t (fun k => decide (R k = some h)) fun _ B => bS (sN σ) (DS (sq σ 3) (sX σ s) (sY σ s)) (sU σ s) (sW σ s) B
theorem sok_3 (hσ : SOK σ) : sq σ 3 ≤ 10000 := (sok_r hσ (i := 3) (by decide)).2
theorem bnd_c (hσ : SOK σ) (hs : sl σ s) (hC : RC σ I J) (hS : gA s = S + 1) : ∀ t, bdC (sN σ) (DS (sq σ 3) (sX σ s) (sY σ s)) (bnd σ s R h t) (bdF (sN σ) (hdL (J 238 0) (J (S + 3)) (J (S + 5))) (J (S + 7)) (J (S + 9)) (gbS R (sN σ) h) (suA (sN σ) (hdL (J 238 0) (J (S + 3)) (J (S + 5))) (gbS R (sN σ) h) (zeR J 256 64) (sN σ)) t) := by
  have hN := sok_N hσ
  obtain ⟨g1, g2⟩ := hC.2.1 s hs
  rw [hS] at g2
  have hD : ∀ a b, a < sN σ → b < sN σ → hdL (J 238 0) (J (S + 3)) (J (S + 5)) a b = DS (sq σ 3) (sX σ s) (sY σ s) a b := fun a b ha hb => by
    rw [(RC_pl hC).1]
    obtain ⟨r1, r2⟩ := hσ.2.1 s a hs ha
    obtain ⟨r3, r4⟩ := hσ.2.1 s b hs hb
    exact hd_S (sok_3 hσ) ⟨(g2 a ha).1, (g2 a ha).2.1, r1, r2⟩ ⟨(g2 b hb).1, (g2 b hb).2.1, r3, r4⟩
  intro t
  induction t with
  | zero =>
    refine ⟨fun k hk => ?_, fun k hk hb => ?_⟩
    · show btL (gbS R (sN σ) h) k = (decide (k < sN σ) && decide (R k = some h))
      rw [gbS_bt hN.2 hk, Bool.decide_and]
    · have hb2 : decide (R k = some h) = true := hb
      show suA (sN σ) (hdL (J 238 0) (J (S + 3)) (J (S + 5))) (gbS R (sN σ) h) (zeR J 256 64) (sN σ) k = hoB (sN σ) (DS (sq σ 3) (sX σ s) (sY σ s)) (fun k => decide (R k = some h)) k
      rw [suA_i (D := hdL (J 238 0) (J (S + 3)) (J (S + 5))) (U := zeR J 256 64) (b64 := gbS R (sN σ) h) (B := btL (gbS R (sN σ) h)) rfl (fun a b ha hb => by rw [hD a b ha hb, hD b a hb ha]; exact DS_sym) (fun k hk => if_pos (by omega)) (sN σ) (Nat.le_refl _) k hk (by rw [gbS_bt hN.2 (by omega)]; exact decide_eq_true ⟨hk, of_decide_eq_true hb2⟩)]
      refine smP_cong fun m hm => ⟨?_, fun _ => hD k m hk hm⟩
      rw [gbS_bt hN.2 (by omega)]
      have e1 : qLo (sN σ) (sN σ) m k = true := decide_eq_true (by omega)
      rw [e1, Bool.and_true]
      have e2 : decide (m < sN σ ∧ R m = some h) = decide (R m = some h) := decide_eq_decide.mpr ⟨fun u => u.2, fun u => ⟨hm, u⟩⟩
      rw [e2]
  | succ t ih => exact bd_C hN.2 ih (fun k hk => ⟨(g2 k hk).2.2.1, (g2 k hk).2.2.2⟩) hD
theorem bnd_m (hσ : SOK σ) (hs : sl σ s) (hM : RM σ I J) (h0 : bdM (sN σ) (fun k => decide (R k = some h)) F) : ∀ t, bdM (sN σ) (bnd σ s R h t) (it t F fun _ F => bnS I J s (sN σ) F)
  | 0 => h0
  | t + 1 => bd_M (sok_N hσ).2 (RM_rws hσ hM hs) (bnd_m hσ hs hM h0 t) (hM.1 3 (by decide)) (sok_3 hσ)
theorem agr_bound (hσ : SOK σ) : agr 2 cdI3 σ (fun g I J => hf_rn 123 0 [some (.ref 0), some (.int i), some (.int j), none] [] g I J) (fun g I J => hf_rn 195 0 [some (.ref 270), some (.int i), some (.int j), none, none, none, none] [] g I J) := by
  have hP := sok_P hσ
  have hN := sok_N hσ
  cases hs : slB (sP σ) i
  · exact Or.inr ⟨3, some (.long 0), Or.inr (Or.inr rfl), (by decide : ¬ cdI3 3 = 0), ⟨_, rfl⟩, fun g I J hL hW hC => cEX_0 hC (c_boundX2 (lay_hx hL) (cls_no hσ hL hC hs)), fun g I J hL hM => mOK_th hσ hM (m_boundX (lay_md hL) (mdl_no hσ hL hM hs))⟩
  · obtain ⟨s, hn, hs2⟩ := sl_ex hσ hs
    obtain ⟨R, n, l, t, hR⟩ := hOf_ex hσ hs2
    have n2 : n ≤ 64 := hR.2.2.2.2.1
    rcases i_lt n (by omega) j with ⟨k, hk, rfl⟩ | hj
    · refine Or.inl ⟨σ, some (.long (orL (sN σ) (bnd σ s R k 64))), hσ, ⟨_, rfl⟩, fun g I J hL hW hC => ?_, fun g I J hL hM => ?_⟩
      · obtain ⟨S, I2, J2, hc⟩ := cls_slot hσ hL hC hn hs2 hR
        have hbq := cSl_b hc hσ hk
        obtain ⟨c1, c2, c3, c4, c5, c6, c7, -⟩ := hc
        have hr := c_boundF (lay_hx hL) (lay_un hL) (lay_pu hL) c1 c2 (by omega) c7 n2 hk (by have := (c5.2.1 s hs2).1; rw [c3] at this; exact this) hN.2
        rw [hbq] at hr
        have hb := (bnd_c (R := R) (h := k) hσ hs2 c5 c3 64).1
        have e : (bdF (sN σ) (hdL (J2 238 0) (J2 (S + 3)) (J2 (S + 5))) (J2 (S + 7)) (J2 (S + 9)) (gbS R (sN σ) k) (suA (sN σ) (hdL (J2 238 0) (J2 (S + 3)) (J2 (S + 5))) (gbS R (sN σ) k) (zeR J2 256 64) (sN σ)) 64).1 = orL (sN σ) (bnd σ s R k 64) := bt_ext fun x hx => by rw [hb x hx, bt_orL hN.2 hx]
        rw [e] at hr
        exact ⟨_, _, hr, RC_fr hP c5 ⟨fun _ _ _ => rfl, fun a ha => kw_ne (by unfold scJ at ha; omega)⟩, fun a ha => ⟨(c6 a ha).1, (kw_ne (by omega)).trans (c6 a ha).2⟩⟩
      · obtain ⟨I2, hm⟩ := mdl_slot hσ hL hM hn hs2 hR
        have hh := mdl_isHalo (j := nI k) hσ hL hM hs hn hm n2
        rw [decide_eq_true (i_in (by omega) hk)] at hh
        have hr := m_boundF (lay_md hL) hh hn (RM_c hm.2.1) hN.2
        have h0 : bdM (sN σ) (fun x => decide (R x = some k)) (bfM (I2 275) s (nI k) (I2 281) (sN σ)) := fun x hx => by
          have e := nmO_eq (mSl_nm hσ hR hm) hx (show k < 64 by omega)
          unfold bfM
          rw [if_pos hx]
          show _ = (decide (R x = some k) = false)
          apply propext
          by_cases q : R x = some k
          · rw [if_pos (e.mpr q), decide_eq_true q]; simp [q10]
          · rw [if_neg (fun u => q (e.mp u)), decide_eq_false q]; simp
        have hb := bnd_m hσ hs2 (RM_th (z := 0) hσ hm.2.1) h0 64
        generalize (it 64 (bfM (I2 275) s (nI k) (I2 281) (sN σ)) fun _ F => bnS (thI I2 0) J s (sN σ) F) = F at hr hb
        have e : bbM F (sN σ) = orL (sN σ) (bnd σ s R k 64) := by
          refine it_cong fun x z hx => ?_
          have e2 := hb x hx
          cases hb2 : bnd σ s R k 64 x
          · rw [if_pos (e2.mpr hb2), if_neg (by decide), Int64.or_zero]
          · rw [if_neg (fun u => by have := e2.mp u; rw [hb2] at this; cases this), if_pos rfl]
        rw [e] at hr
        refine ⟨_, _, hr, RM_fr hP hN.2 hm.2.1 ⟨fun a b ha => ?_, fun _ _ => rfl⟩, ?_, fun a ha => ⟨?_, rfl⟩⟩
        · rw [kw_ne (by unfold quI at ha; omega), th_q ha]
        · rw [kw_ne (by decide), th_38]
        · rw [kw_ne (by omega), th_r (by omega)]; exact (hm.2.2.1 a ha).1
    · refine Or.inr ⟨3, some (.long 0), Or.inr (Or.inr rfl), (by decide : ¬ cdI3 3 = 0), ⟨_, rfl⟩, fun g I J hL hW hC => ?_, fun g I J hL hM => ?_⟩
      · obtain ⟨S, I2, J2, c1, c2, c3, c4, c5, c6, c7, -⟩ := cls_slot hσ hL hC hn hs2 hR
        exact cEX_1 c5 c6 (c_boundX (lay_hx hL) c1 c2 (by rw [c7]; exact hj))
      · obtain ⟨I2, hm⟩ := mdl_slot hσ hL hM hn hs2 hR
        have hh := mdl_isHalo (j := j) hσ hL hM hs hn hm n2
        rw [decide_eq_false hj] at hh
        exact mOK_sl hσ hm.2.1 hm.2.2.1 (m_boundX (lay_md hL) hh)
end
