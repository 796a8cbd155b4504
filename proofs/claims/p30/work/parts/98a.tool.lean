/-! TOOLS FOR THE LAW: throws in a row, states one behind another -/
/-- the heap behind k throws -/
def tg (k : Nat) (g : hf_G) : hf_G := it k g fun _ g => hf_th g
section
variable {σ : Sg} {g g2 : hf_G} {I I1 I2 : hf_I} {J J1 J2 : hf_J} {a b k m n : Nat} {i : Int32}
theorem tg_0 : tg 0 g = g := rfl
theorem tg_s : tg (k + 1) g = hf_th (tg k g) := rfl
theorem tg_1 : hf_th g = tg 1 g := rfl
theorem tg_t : ∀ b, tg b (tg a g) = tg (a + b) g
  | 0 => rfl
  | b + 1 => congrArg hf_th (tg_t b)
theorem th_tg : hf_th (tg a g) = tg (a + 1) g := rfl
theorem tg_k : ∀ k, hf_k (tg k g) = hf_k g
  | 0 => rfl
  | k + 1 => tg_k k
theorem tg_r : ∀ k, hf_r (tg k g) = hf_r g
  | 0 => rfl
  | k + 1 => tg_r k
theorem tg_c : ∀ k, hf_c (tg k g) = hf_c g + k
  | 0 => rfl
  | k + 1 => congrArg (· + 1) (tg_c k)
theorem tg_ss : ∀ k, hf_s (tg k g) = hf_s g + 6 * k
  | 0 => rfl
  | k + 1 => (congrArg (· + 6) (tg_ss k)).trans (by show hf_s g + 6 * k + 6 = _; omega)
theorem tg_n : ∀ k, hf_n g + k ≤ 1000000 → hf_n (tg k g) = hf_n g + k
  | 0, _ => rfl
  | k + 1, h => by
    show (if hf_n (tg k g) < 1000000 then hf_n (tg k g) + 1 else hf_n (tg k g)) = _
    rw [tg_n k (by omega), if_pos (by omega)]
    omega
theorem tg_e (he : hf_e g = true) : ∀ k, hf_n g + k ≤ 1000000 → hf_e (tg k g) = true
  | 0, _ => he
  | k + 1, h => by
    show (hf_e (tg k g) && decide (hf_n (tg k g) < 1000000)) = true
    rw [tg_e he k (by omega), tg_n k (by omega), decide_eq_true (by omega)]
    rfl
/-- the layout asks for kinds and links alone -/
theorem Lay.of (h : Lay g) (hk : hf_k g2 = hf_k g) (hr : hf_r g2 = hf_r g) (hn : hf_n g2 < 1000000) : Lay g2 := by
  have e : ∀ P : (Nat → Nat × Nat) → (Nat → Nat → Option Nat) → Prop, P (hf_k g) (hf_r g) → P (hf_k g2) (hf_r g2) := fun P hp => by rw [hk, hr]; exact hp
  refine ⟨?_, hn, by rw [hk]; exact h.2.2⟩
  have h1 := h.1
  exact e (fun kk rr => Hx (0, true, kk, rr, 0, 0) ∧ Al (0, true, kk, rr, 0, 0) ∧ Pu (0, true, kk, rr, 0, 0) ∧ Jo (0, true, kk, rr, 0, 0) ∧ Un (0, true, kk, rr, 0, 0) ∧ Sk (0, true, kk, rr, 0, 0)) h1
theorem Lay.tg (h : Lay g) (hn : hf_n g + k < 1000000) : Lay (tg k g) := h.of (tg_k k) (tg_r k) (by rw [tg_n k (by omega)]; exact hn)
/-- a check of the law that says yes, behind at most m throws -/
def Lw (σ : Sg) (m : Nat) (g : hf_G) (I : hf_I) (J : hf_J) (r : Option hf_R) : Prop := ∃ k I2 J2, k ≤ m ∧ r = some (.inl (some (.int 1)), tg k g, I2, J2) ∧ RC σ I2 J2 ∧ kC I I2 J J2
theorem kC.t (h : kC I I1 J J1) (h2 : kC I1 I2 J1 J2) : kC I I2 J J2 := fun a ha => ⟨(h2 a ha).1.trans (h a ha).1, (h2 a ha).2.trans (h a ha).2⟩
theorem kC.ii (h : kC I I2 J J2) (ha : 270 ≤ a) : I2 a = I a := (h a ha).1
theorem kC.jj (h : kC I I2 J J2) (ha : 270 ≤ a) : J2 a = J a := (h a ha).2
end
