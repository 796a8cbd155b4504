/-! LOOPS, from the end: what is asked at the end is asked at the head -/
theorem down {α : Type} {n : Nat} {s : α} {f : Nat → α → α} (P : Nat → α → Prop) (h1 : P n (it n s f)) (h2 : ∀ k x, k < n → x = it k s f → P (k + 1) (f k x) → P k x) : P 0 s := by
  have key : ∀ d k, k + d = n → P k (it k s f) := by
    intro d
    induction d with
    | zero =>
      intro k hk
      have e : k = n := by omega
      subst e
      exact h1
    | succ d ih => intro k hk; exact h2 k _ (by omega) rfl (ih (k + 1) (by omega))
  exact key n 0 (by omega)
theorem it_2 {α β : Type} {n : Nat} {a : α} {b : β} {f : Nat → α → α} {q : Nat → β → β} : it n (a, b) (fun k p => (f k p.1, q k p.2)) = (it n a f, it n b q) := by
  induction n with
  | zero => rfl
  | succ n ih => rw [it_s, ih]; rfl
theorem it_4 {α β γ δ : Type} {n : Nat} {a : α} {b : β} {c : γ} {d : δ} {f : Nat → α → α} {q : Nat → β → β} {r : Nat → γ → γ} {s : Nat → δ → δ} : it n (a, b, c, d) (fun k p => (f k p.1, q k p.2.1, r k p.2.2.1, s k p.2.2.2)) = (it n a f, it n b q, it n c r, it n d s) := by
  induction n with
  | zero => rfl
  | succ n ih => rw [it_s, ih]; rfl
