def totN (x : Nat → Nat) : Nat := x 0 + x 1 + x 2 + x 3
def c4a (co : Nat) (x : Nat → Nat) : Nat := co * x 0 / 1000
def c4b (co fo : Nat) (x : Nat → Nat) : Nat := fo * (x 1 + c4a co x) / 1000
def c4c (co fo wi : Nat) (x : Nat → Nat) : Nat := if x 1 + c4a co x - c4b co fo x ≤ wi * c4b co fo x / 1000 then x 1 + c4a co x - c4b co fo x else wi * c4b co fo x / 1000
def c4N (co fo wi : Nat) (x : Nat → Nat) : Nat → Nat := fun w => if w = 0 then x 0 - c4a co x else if w = 1 then x 1 + c4a co x - c4b co fo x - c4c co fo wi x else if w = 2 then x 2 + c4b co fo x else x 3 + c4c co fo wi x
def vN (H : Nat → Nat → Option Nat) (p k : Nat) (q : (Nat → Bool) × (Nat → Nat → Nat)) : (Nat → Bool) × (Nat → Nat → Nat) := match H p k with
  | none => q
  | some h => if q.1 k = true then q else (up q.1 k true, up q.2 (64 * p + h) (up (q.2 (64 * p + h)) 0 (q.2 (64 * p + h) 0 + 100)))
def vC (co fo wi n : Nat) (V : Nat → Nat → Nat) : Nat → Nat → Nat := up V n (c4N co fo wi (V n))
def vG (n m : Nat) (V : Nat → Nat → Nat) : Nat → Nat → Nat := up V m (fun w => V m w + V n w)
def vS (nx : Nat → Nat → Option (Nat × Nat)) (co fo wi p k : Nat) (q : Nat × (Nat → Nat → Nat)) : Nat × (Nat → Nat → Nat) := match nx p k with
  | none => (q.1 + totN (vC co fo wi (64 * p + k) q.2 (64 * p + k)), vC co fo wi (64 * p + k) q.2)
  | some (a, b) => (q.1, vG (64 * p + k) (64 * a + b) (vC co fo wi (64 * p + k) q.2))
def vP (H : Nat → Nat → Option Nat) (cn : Nat → Nat) (nx : Nat → Nat → Option (Nat × Nat)) (co fo wi c p : Nat) (q : Nat × (Nat → Bool) × (Nat → Nat → Nat)) : Nat × (Nat → Bool) × (Nat → Nat → Nat) :=
  ((it (cn p) (q.1, (it c q.2 (vN H p)).2) (vS nx co fo wi p)).1, (it c q.2 (vN H p)).1, (it (cn p) (q.1, (it c q.2 (vN H p)).2) (vS nx co fo wi p)).2)
def vA (H : Nat → Nat → Option Nat) (cn : Nat → Nat) (nx : Nat → Nat → Option (Nat × Nat)) (co fo wi c t : Nat) : Nat × (Nat → Bool) × (Nat → Nat → Nat) := it t (0, (fun _ => false), fun _ _ => 0) (vP H cn nx co fo wi c)
/-- what is alive stays within what came -/
def vB (c n : Nat) (B : Nat → Bool) (V : Nat → Nat → Nat) : Prop := (∃ T : Nat → Nat, (∀ m, n ≤ m → m < 768 → totN (V m) = T m) ∧ smN T 768 ≤ 100 * ctB B c) ∧ ∀ m, m < 768 → totN (V m) ≤ 6400
section
variable {H : Nat → Nat → Option Nat} {cn : Nat → Nat} {nx nx2 : Nat → Nat → Option (Nat × Nat)} {co fo wi c p k h n m a b P t w : Nat} {B : Nat → Bool} {V : Nat → Nat → Nat} {x : Nat → Nat} {f : Nat → Nat}
theorem smN_le {i : Nat} : ∀ n, i < n → f i ≤ smN f n
  | 0, h => absurd h (Nat.not_lt_zero _)
  | n + 1, h => by
    rw [smN_s]
    by_cases e : i = n
    · rw [e]; omega
    · have := smN_le n (show i < n by omega); omega
theorem c4a_le (hc : co ≤ 1000) : c4a co x ≤ x 0 := by
  unfold c4a
  have := Nat.mul_le_mul_right (x 0) hc
  omega
theorem c4b_le (hf : fo ≤ 1000) : c4b co fo x ≤ x 1 + c4a co x := by
  unfold c4b
  have := Nat.mul_le_mul_right (x 1 + c4a co x) hf
  omega
theorem c4c_le : c4c co fo wi x ≤ x 1 + c4a co x - c4b co fo x := by
  unfold c4c
  split <;> omega
theorem c4_tot (hc : co ≤ 1000) (hf : fo ≤ 1000) : totN (c4N co fo wi x) = totN x := by
  have h1 := c4a_le (x := x) hc
  have h2 := c4b_le (x := x) (co := co) hf
  have h3 := c4c_le (x := x) (co := co) (fo := fo) (wi := wi)
  show (x 0 - c4a co x) + (x 1 + c4a co x - c4b co fo x - c4c co fo wi x) + (x 2 + c4b co fo x) + (x 3 + c4c co fo wi x) = x 0 + x 1 + x 2 + x 3
  omega
theorem vB_mono (h : vB c n B V) (hn : n ≤ m) : vB c m B V := by
  obtain ⟨⟨T, h1, h2⟩, h3⟩ := h
  exact ⟨⟨T, fun x hx hx2 => h1 x (by omega) hx2, h2⟩, h3⟩
theorem vB_N (hc2 : c ≤ 64) (hk : k < c) (hH : ∀ h, H p k = some h → h < 64) (hp : p < 12) (hb : vB c (64 * p) B V) : vB c (64 * p) (vN H p k (B, V)).1 (vN H p k (B, V)).2 := by
  unfold vN
  cases e : H p k with
  | none => exact hb
  | some h =>
    have hh := hH h e
    dsimp only
    by_cases c1 : B k = true
    · rw [if_pos c1]; exact hb
    · rw [if_neg c1]
      obtain ⟨⟨T, h1, h2⟩, h3⟩ := hb
      have hct : ctB (up B k true) c = ctB B c + 1 := by
        rw [ctB_rm (P := up B k true) (k := k) up_s c, if_pos hk]
        congr 1
        refine ctB_cong fun j hj => ?_
        by_cases q : j = k
        · rw [q, up_s, decide_eq_true (show k = k from rfl)]
          cases hb : B k
          · rfl
          · exact absurd hb c1
        · rw [up_n q, decide_eq_false q]; simp
      have hle : ctB (up B k true) c ≤ 64 := Nat.le_trans (ctB_le c) hc2
      have hT := smN_up (f := T) (v := T (64 * p + h) + 100) (show 64 * p + h < 768 by omega)
      have hV : totN (up (V (64 * p + h)) 0 (V (64 * p + h) 0 + 100)) = T (64 * p + h) + 100 := by
        rw [← h1 (64 * p + h) (by omega) (by omega)]
        unfold totN
        rw [up_s, up_n (by decide), up_n (by decide), up_n (by decide)]
        omega
      have hsm := smN_le (f := up T (64 * p + h) (T (64 * p + h) + 100)) (i := 64 * p + h) 768 (by omega)
      rw [up_s] at hsm
      refine ⟨⟨up T (64 * p + h) (T (64 * p + h) + 100), fun m hm hm2 => ?_, ?_⟩, fun m hm => ?_⟩
      · dsimp only
        by_cases q : m = 64 * p + h
        · rw [q, up_s, up_s, hV]
        · rw [up_n q, up_n q]; exact h1 m hm hm2
      · dsimp only
        omega
      · dsimp only
        by_cases q : m = 64 * p + h
        · rw [q, up_s, hV]; omega
        · rw [up_n q]; exact h3 m hm
theorem vB_C (hc : co ≤ 1000) (hf : fo ≤ 1000) (hb : vB c n B V) : vB c n B (vC co fo wi n V) := by
  obtain ⟨⟨T, h1, h2⟩, h3⟩ := hb
  have key : ∀ m, totN (vC co fo wi n V m) = totN (V m) := fun m => by
    unfold vC
    by_cases q : m = n
    · rw [q, up_s, c4_tot hc hf]
    · rw [up_n q]
  exact ⟨⟨T, fun m hm hm2 => by rw [key m]; exact h1 m hm hm2, h2⟩, fun m hm => by rw [key m]; exact h3 m hm⟩
theorem vB_G (hc2 : c ≤ 64) (hm : n < m) (hm2 : m < 768) (hb : vB c n B V) : vB c (n + 1) B (vG n m V) := by
  obtain ⟨⟨T, h1, h2⟩, h3⟩ := hb
  have hct : ctB B c ≤ 64 := Nat.le_trans (ctB_le c) hc2
  have a1 := h1 n (Nat.le_refl _) (by omega)
  have a2 := h1 m (by omega) hm2
  have s1 := smN_up (f := T) (v := 0) (show n < 768 by omega)
  have s2 := smN_up (f := up T n 0) (v := T m + T n) hm2
  rw [up_n (by omega)] at s2
  have hV : totN (fun w => V m w + V n w) = T m + T n := by
    rw [← a1, ← a2]
    show (V m 0 + V n 0) + (V m 1 + V n 1) + (V m 2 + V n 2) + (V m 3 + V n 3) = (V m 0 + V m 1 + V m 2 + V m 3) + (V n 0 + V n 1 + V n 2 + V n 3)
    omega
  have hsm := smN_le (f := up (up T n 0) m (T m + T n)) (i := m) 768 hm2
  rw [up_s] at hsm
  refine ⟨⟨up (up T n 0) m (T m + T n), fun x hx hx2 => ?_, by omega⟩, fun x hx => ?_⟩
  · unfold vG
    by_cases q : x = m
    · rw [q, up_s, up_s, hV]
    · rw [up_n q, up_n q, up_n (by omega)]
      exact h1 x (by omega) hx2
  · unfold vG
    by_cases q : x = m
    · rw [q, up_s, hV]; omega
    · rw [up_n q]; exact h3 x hx
theorem vB_S (hc2 : c ≤ 64) (hc : co ≤ 1000) (hf : fo ≤ 1000) (hk : k < 64) (hx : ∀ a b, nx p k = some (a, b) → p < a ∧ a < 12 ∧ b < 64) {z : Nat} (hb : vB c (64 * p + k) B V) : vB c (64 * p + k + 1) B (vS nx co fo wi p k (z, V)).2 := by
  have hb2 := vB_C (wi := wi) hc hf hb
  unfold vS
  cases e : nx p k with
  | none => exact vB_mono hb2 (by omega)
  | some q =>
    obtain ⟨a, b⟩ := q
    have := hx a b e
    exact vB_G hc2 (by omega) (by omega) hb2
def vM (V : Nat → Nat → Nat) (Q : Q4) : Prop := ∀ n, n < 768 → Q.1 n = nI (V n 0) ∧ Q.2.1 n = nI (V n 1) ∧ Q.2.2.1 n = nI (V n 2) ∧ Q.2.2.2 n = nI (V n 3)
theorem nI_sb {a b : Nat} (h : b ≤ a) : nI a - nI b = nI (a - b) := by
  rw [nI_iZ, nI_iZ, nI_iZ, iZ_sub]
  congr 1
  omega
theorem tot_le (h : totN x ≤ 6400) : x 0 ≤ 6400 ∧ x 1 ≤ 6400 ∧ x 2 ≤ 6400 ∧ x 3 ≤ 6400 ∧ x 0 + x 1 ≤ 6400 := by
  unfold totN at h
  omega
theorem ck4_z (hc : co ≤ 1000) (hf : fo ≤ 1000) (hw : wi ≤ 5000) (hx : totN x ≤ 6400) : ck4 (nI co) (nI fo) (nI wi) (nI (x 0)) (nI (x 1)) (nI (x 2)) (nI (x 3)) = (nI (c4N co fo wi x 0), nI (c4N co fo wi x 1), nI (c4N co fo wi x 2), nI (c4N co fo wi x 3)) := by
  obtain ⟨x0, x1, x2, x3, x4⟩ := tot_le hx
  have h1 := c4a_le (x := x) hc
  have h2 := c4b_le (x := x) (co := co) hf
  have h3 := c4c_le (x := x) (co := co) (fo := fo) (wi := wi)
  have m1 := Nat.mul_le_mul hc x0
  have m2 := Nat.mul_le_mul hf (show x 1 + c4a co x ≤ 6400 by omega)
  have m3 := Nat.mul_le_mul hw (show c4b co fo x ≤ 6400 by omega)
  have e1 : nI co * nI (x 0) / 1000 = nI (c4a co x) := by
    rw [show (1000 : Int32) = nI 1000 from rfl, nI_mul, nI_dv (by omega) (by omega)]
    rfl
  have e2 : nI fo * (nI (x 1) + nI (c4a co x)) / 1000 = nI (c4b co fo x) := by
    rw [show (1000 : Int32) = nI 1000 from rfl, nI_add, nI_mul, nI_dv (by omega) (by omega)]
    rfl
  have e3 : nI wi * nI (c4b co fo x) / 1000 = nI (wi * c4b co fo x / 1000) := by
    rw [show (1000 : Int32) = nI 1000 from rfl, nI_mul, nI_dv (by omega) (by omega)]
  have e4 : nI (x 1) + nI (c4a co x) - nI (c4b co fo x) = nI (x 1 + c4a co x - c4b co fo x) := by rw [nI_add, nI_sb h2]
  have e5 : (if nI (x 1 + c4a co x - c4b co fo x) ≤ nI (wi * c4b co fo x / 1000) then nI (x 1 + c4a co x - c4b co fo x) else nI (wi * c4b co fo x / 1000)) = nI (c4c co fo wi x) := by
    have hq : (nI (x 1 + c4a co x - c4b co fo x) ≤ nI (wi * c4b co fo x / 1000)) = (x 1 + c4a co x - c4b co fo x ≤ wi * c4b co fo x / 1000) := z_ii (by omega) (by omega)
    unfold c4c
    by_cases q : x 1 + c4a co x - c4b co fo x ≤ wi * c4b co fo x / 1000
    · rw [if_pos (hq.mpr q), if_pos q]
    · rw [if_neg (fun u => q (hq.mp u)), if_neg q]
  unfold ck4
  dsimp only
  rw [e1, e2, e3, e4, e5, nI_sb h1, nI_sb h3, nI_add, nI_add]
  rfl
theorem vM_up {F : Nat → Int32} {v : Int32} (hw : w < 4) (h : F n = nI (V n w)) (hv : v = nI (x w)) : up F k v n = nI (up V k x n w) := by
  by_cases e : n = k
  · rw [e, up_s, up_s, hv]
  · rw [up_n e, up_n e, h]
theorem vM_C (hc : co ≤ 1000) (hf : fo ≤ 1000) (hw : wi ≤ 5000) (hn : n < 768) (hx : totN (V n) ≤ 6400) {Q : Q4} (h : vM V Q) : vM (vC co fo wi n V) (ckQ (nI co) (nI fo) (nI wi) n Q) := by
  obtain ⟨k1, k2, k3, k4⟩ := h n hn
  intro m hm
  obtain ⟨a1, a2, a3, a4⟩ := h m hm
  unfold ckQ vC
  rw [k1, k2, k3, k4, ck4_z hc hf hw hx]
  exact ⟨vM_up (by decide) a1 rfl, vM_up (by decide) a2 rfl, vM_up (by decide) a3 rfl, vM_up (by decide) a4 rfl⟩
theorem vM_G (hn : n < 768) (hb : b < 768) {Q : Q4} (h : vM V Q) : vM (vG n b V) (goQ n b Q) := by
  obtain ⟨k1, k2, k3, k4⟩ := h n hn
  obtain ⟨l1, l2, l3, l4⟩ := h b hb
  intro m hm
  obtain ⟨a1, a2, a3, a4⟩ := h m hm
  unfold goQ vG
  rw [k1, k2, k3, k4, l1, l2, l3, l4]
  exact ⟨vM_up (by decide) a1 (nI_add _ _), vM_up (by decide) a2 (nI_add _ _), vM_up (by decide) a3 (nI_add _ _), vM_up (by decide) a4 (nI_add _ _)⟩
theorem vM_t (hn : n < 768) {Q : Q4} (h : vM V Q) : smQ n Q = nI (totN (V n)) := by
  obtain ⟨k1, k2, k3, k4⟩ := h n hn
  unfold smQ totN
  rw [k1, k2, k3, k4, nI_add, nI_add, nI_add]
/-- both at the grains, both at the halos -/
theorem vM_N {R : Nat → Int32} (hc2 : c ≤ 64) (hp : p < 12) (hR : ∀ k, k < c → R (64 * p + k) = coM (H p k)) (hH : ∀ k h, k < c → H p k = some h → h < 64) {Bi : Nat → Int32} {Q : Q4} (hB : ∀ k, k < c → (Bi k = 0) = (B k = false)) (hV : vM V Q) (hb : vB c (64 * p) B V) : ∀ t, t ≤ c → (∀ k, k < c → ((n1Q R p (Bi, Q) t).1 k = 0) = ((it t (B, V) (vN H p)).1 k = false)) ∧ vM (it t (B, V) (vN H p)).2 (n1Q R p (Bi, Q) t).2 ∧ vB c (64 * p) (it t (B, V) (vN H p)).1 (it t (B, V) (vN H p)).2
  | 0, _ => ⟨hB, hV, hb⟩
  | t + 1, ht => by
    obtain ⟨i1, i2, i3⟩ := vM_N hc2 hp hR hH hB hV hb t (by omega)
    have i4 := vB_N (H := H) hc2 (show t < c by omega) (fun h e => hH t h (by omega) e) hp i3
    have e0 : n1Q R p (Bi, Q) (t + 1) = if R (64 * p + t) = -1 then n1Q R p (Bi, Q) t else if (n1Q R p (Bi, Q) t).1 t = 0 then (up (n1Q R p (Bi, Q) t).1 t 1, (up (n1Q R p (Bi, Q) t).2.1 (64 * p + (R (64 * p + t)).toNatClampNeg) ((n1Q R p (Bi, Q) t).2.1 (64 * p + (R (64 * p + t)).toNatClampNeg) + 100), (n1Q R p (Bi, Q) t).2.2)) else n1Q R p (Bi, Q) t := rfl
    rw [it_s]
    refine ⟨?_, ?_, i4⟩
    · rw [e0]
      generalize n1Q R p (Bi, Q) t = u at i1 i2
      generalize it t (B, V) (vN H p) = v at i1 i2 i3
      unfold vN
      rw [hR t (by omega)]
      have i1t := i1 t (by omega)
      cases e : H p t with
      | none => exact i1
      | some h =>
        obtain ⟨n1, n2⟩ := coM_n (hH t h (by omega) e)
        show ∀ k, k < c → ((if nI h = -1 then u else _).1 k = 0) = _
        rw [if_neg n1]
        dsimp only
        cases hb1 : v.1 t
        · rw [if_pos (i1t.mpr hb1), if_neg (by decide)]
          intro k hk
          dsimp only
          by_cases q : k = t
          · rw [q, up_s, up_s]; simp
          · rw [up_n q, up_n q]; exact i1 k hk
        · rw [if_neg (fun q => by rw [i1t.mp q] at hb1; cases hb1), if_pos rfl]
          exact i1
    · rw [e0]
      generalize n1Q R p (Bi, Q) t = u at i1 i2
      generalize it t (B, V) (vN H p) = v at i1 i2 i3
      unfold vN
      rw [hR t (by omega)]
      have i1t := i1 t (by omega)
      cases e : H p t with
      | none => exact i2
      | some h =>
        have hh := hH t h (by omega) e
        obtain ⟨n1, n2⟩ := coM_n hh
        show vM _ (if nI h = -1 then u else _).2
        rw [if_neg n1]
        dsimp only
        cases hb1 : v.1 t
        · rw [if_pos (i1t.mpr hb1), if_neg (by decide)]
          intro m hm
          obtain ⟨a1, a2, a3, a4⟩ := i2 m hm
          obtain ⟨k1, k2, k3, k4⟩ := i2 (64 * p + h) (by omega)
          show up u.2.1 (64 * p + (nI h).toNatClampNeg) (u.2.1 (64 * p + (nI h).toNatClampNeg) + 100) m = _ ∧ u.2.2.1 m = _ ∧ u.2.2.2.1 m = _ ∧ u.2.2.2.2 m = _
          rw [n2, k1]
          refine ⟨vM_up (by decide) a1 (by rw [up_s, show (100 : Int32) = nI 100 from rfl, nI_add]), ?_, ?_, ?_⟩
          · show _ = nI (up v.2 (64 * p + h) (up (v.2 (64 * p + h)) 0 (v.2 (64 * p + h) 0 + 100)) m 1)
            by_cases q : m = 64 * p + h
            · rw [q, up_s, up_n (by decide), ← q, a2]
            · rw [up_n q, a2]
          · show _ = nI (up v.2 (64 * p + h) (up (v.2 (64 * p + h)) 0 (v.2 (64 * p + h) 0 + 100)) m 2)
            by_cases q : m = 64 * p + h
            · rw [q, up_s, up_n (by decide), ← q, a3]
            · rw [up_n q, a3]
          · show _ = nI (up v.2 (64 * p + h) (up (v.2 (64 * p + h)) 0 (v.2 (64 * p + h) 0 + 100)) m 3)
            by_cases q : m = 64 * p + h
            · rw [q, up_s, up_n (by decide), ← q, a4]
            · rw [up_n q, a4]
        · rw [if_pos rfl, if_neg (fun q => by rw [i1t.mp q] at hb1; cases hb1)]
          exact i2
theorem vM_S (hc2 : c ≤ 64) (hc : co ≤ 1000) (hf : fo ≤ 1000) (hw : wi ≤ 5000) (hp : p < 12) (hx : ∀ k a b, k < m → nx p k = some (a, b) → p < a ∧ a < 12 ∧ b < 64) (hm : m ≤ 64) {z : Nat} {Q : Q4} (hV : vM V Q) (hb : vB c (64 * p) B V) : ∀ t, t ≤ m → (n2Q nx (nI co) (nI fo) (nI wi) p (nI z, Q) t).1 = nI (it t (z, V) (vS nx co fo wi p)).1 ∧ vM (it t (z, V) (vS nx co fo wi p)).2 (n2Q nx (nI co) (nI fo) (nI wi) p (nI z, Q) t).2 ∧ vB c (64 * p + t) B (it t (z, V) (vS nx co fo wi p)).2
  | 0, _ => ⟨rfl, hV, hb⟩
  | t + 1, ht => by
    obtain ⟨i1, i2, i3⟩ := vM_S hc2 hc hf hw hp hx hm hV hb t (by omega)
    have e0 : n2Q nx (nI co) (nI fo) (nI wi) p (nI z, Q) (t + 1) = n2S nx (nI co) (nI fo) (nI wi) p t (n2Q nx (nI co) (nI fo) (nI wi) p (nI z, Q) t) := rfl
    rw [it_s, e0]
    generalize n2Q nx (nI co) (nI fo) (nI wi) p (nI z, Q) t = u at i1 i2
    generalize it t (z, V) (vS nx co fo wi p) = v at i1 i2 i3
    have i4 := vB_S (nx := nx) (wi := wi) (z := v.1) hc2 hc hf (show t < 64 by omega) (fun a b e => hx t a b (by omega) e) i3
    have j1 := vM_C hc hf hw (show 64 * p + t < 768 by omega) (i3.2 _ (by omega)) i2
    refine ⟨?_, ?_, i4⟩
    · unfold n2S vS
      cases e : nx p t with
      | none =>
        dsimp only
        rw [i1, vM_t (by omega) j1, nI_add]
      | some q => exact i1
    · unfold n2S vS
      cases e : nx p t with
      | none => exact j1
      | some q =>
        obtain ⟨a, b⟩ := q
        have := hx t a b (by omega) e
        exact vM_G (by omega) (by omega) j1
theorem vM_A {R : Nat → Int32} (hP : P ≤ 12) (hc2 : c ≤ 64) (hc : co ≤ 1000) (hf : fo ≤ 1000) (hw : wi ≤ 5000) (hR : ∀ p k, p < P → k < c → R (64 * p + k) = coM (H p k)) (hH : ∀ p k h, p < P → k < c → H p k = some h → h < 64) (hcn : ∀ p, p < P → cn p ≤ 64) (hx : ∀ p k a b, p < P → k < cn p → nx p k = some (a, b) → p < a ∧ a < 12 ∧ b < 64) : ∀ t, t ≤ P → (n3Q R cn nx (nI co) (nI fo) (nI wi) c (0, (fun _ => 0), (fun _ => 0), (fun _ => 0), (fun _ => 0), (fun _ => 0)) t).1 = nI (vA H cn nx co fo wi c t).1 ∧ (∀ k, k < c → ((n3Q R cn nx (nI co) (nI fo) (nI wi) c (0, (fun _ => 0), (fun _ => 0), (fun _ => 0), (fun _ => 0), (fun _ => 0)) t).2.1 k = 0) = ((vA H cn nx co fo wi c t).2.1 k = false)) ∧ vM (vA H cn nx co fo wi c t).2.2 (n3Q R cn nx (nI co) (nI fo) (nI wi) c (0, (fun _ => 0), (fun _ => 0), (fun _ => 0), (fun _ => 0), (fun _ => 0)) t).2.2 ∧ vB c (64 * t) (vA H cn nx co fo wi c t).2.1 (vA H cn nx co fo wi c t).2.2
  | 0, _ => by
    refine ⟨rfl, fun k hk => by show ((0 : Int32) = 0) = (false = false); simp, fun n hn => ⟨rfl, rfl, rfl, rfl⟩, ⟨⟨fun _ => 0, fun m _ _ => rfl, ?_⟩, fun m hm => Nat.zero_le _⟩⟩
    have : ∀ n, smN (fun _ => 0) n = 0 := by
      intro n
      induction n with
      | zero => rfl
      | succ n ih => rw [smN_s, ih]
    rw [this]
    exact Nat.zero_le _
  | t + 1, ht => by
    obtain ⟨i1, i2, i3, i4⟩ := vM_A hP hc2 hc hf hw hR hH hcn hx t (by omega)
    have e0 : n3Q R cn nx (nI co) (nI fo) (nI wi) c (0, (fun _ => 0), (fun _ => 0), (fun _ => 0), (fun _ => 0), (fun _ => 0)) (t + 1) = (fun q : Int32 × (Nat → Int32) × Q4 => ((n2Q nx (nI co) (nI fo) (nI wi) t (q.1, (n1Q R t q.2 c).2) (cn t)).1, (n1Q R t q.2 c).1, (n2Q nx (nI co) (nI fo) (nI wi) t (q.1, (n1Q R t q.2 c).2) (cn t)).2)) (n3Q R cn nx (nI co) (nI fo) (nI wi) c (0, (fun _ => 0), (fun _ => 0), (fun _ => 0), (fun _ => 0), (fun _ => 0)) t) := rfl
    have e1 : vA H cn nx co fo wi c (t + 1) = vP H cn nx co fo wi c t (vA H cn nx co fo wi c t) := rfl
    rw [e0, e1]
    generalize n3Q R cn nx (nI co) (nI fo) (nI wi) c (0, (fun _ => 0), (fun _ => 0), (fun _ => 0), (fun _ => 0), (fun _ => 0)) t = u at i1 i2 i3
    generalize vA H cn nx co fo wi c t = v at i1 i2 i3 i4
    obtain ⟨u1, u2, u3⟩ := u
    obtain ⟨v1, v2, v3⟩ := v
    dsimp only at i1 i2 i3 i4 ⊢
    obtain ⟨j1, j2, j3⟩ := vM_N (H := H) (R := R) hc2 (show t < 12 by omega) (fun k hk => hR t k (by omega) hk) (fun k h hk => hH t k h (by omega) hk) i2 i3 i4 c (Nat.le_refl _)
    unfold vP
    dsimp only
    generalize n1Q R t (u2, u3) c = r at j1 j2
    generalize it c (v2, v3) (vN H t) = s at j1 j2 j3
    obtain ⟨k1, k2, k3⟩ := vM_S (nx := nx) (z := v1) hc2 hc hf hw (show t < 12 by omega) (fun k a b hk => hx t k a b (by omega) hk) (hcn t (by omega)) j2 j3 (cn t) (Nat.le_refl _)
    rw [i1]
    exact ⟨k1, j1, k2, vB_mono k3 (by have := hcn t (by omega); omega)⟩
end
