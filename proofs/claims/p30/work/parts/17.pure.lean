/-! WHAT A STEP OF THE PURE MACHINE CAN BE -/
def hf_le (g g1 : hf_G) : Prop := hf_c g ≤ hf_c g1 ∧ hf_s g ≤ hf_s g1 ∧ (hf_e g1 = true → hf_e g = true ∧ hf_n g1 + hf_c g = hf_n g + hf_c g1)
theorem hf_le_rf {g : hf_G} : hf_le g g := ⟨Nat.le_refl _, Nat.le_refl _, fun h => ⟨h, rfl⟩⟩
theorem hf_le_tr {g g1 g2 : hf_G} (h : hf_le g g1) (h2 : hf_le g1 g2) : hf_le g g2 :=
  ⟨Nat.le_trans h.1 h2.1, Nat.le_trans h.2.1 h2.2.1, fun q => by obtain ⟨a, b⟩ := h2.2.2 q; obtain ⟨a2, b2⟩ := h.2.2 a; exact ⟨a2, by omega⟩⟩
theorem hf_le_mk {g : hf_G} {kd : Nat × Nat} {ns : Nat} : hf_le g (hf_mk g kd ns) := ⟨Nat.le_succ _, Nat.le_add_right _ _, fun h => ⟨h, by show hf_n g + 1 + hf_c g = hf_n g + (hf_c g + 1); omega⟩⟩
theorem hf_le_sr {g : hf_G} {a i : Nat} {v : Option Nat} : hf_le g (hf_sr g a i v) := ⟨Nat.le_refl _, Nat.le_refl _, fun h => ⟨h, rfl⟩⟩
theorem hf_le_th {g : hf_G} : hf_le g (hf_th g) := ⟨Nat.le_succ _, Nat.le_add_right _ _, fun h => by
  have h1 : (hf_e g && decide (hf_n g < 1000000)) = true := h
  simp only [Bool.and_eq_true, decide_eq_true_eq] at h1
  refine ⟨h1.1, ?_⟩
  show (if hf_n g < 1000000 then hf_n g + 1 else hf_n g) + hf_c g = hf_n g + (hf_c g + 1)
  rw [if_pos h1.2]
  omega⟩
section
variable {mi pc pc1 : Nat} {L L1 : hf_Lo} {st st1 : List Value} {g g1 : hf_G} {I I1 : hf_I} {J J1 : hf_J}
theorem hf_do_le {i : Instr} (h : hf_do i mi pc L st g I J = some (.inl (pc1, L1, st1, g1, I1, J1))) : hf_le g g1 := by
  cases i
  all_goals (try simp only [hf_do, hf_ld0, hf_ld1, hf_ld2, hf_st0, hf_st1, hf_st2, hf_i2, hf_l2, hf_nx, hf_go, hf_br, hf_gf, hf_pf, hf_ia, hf_la1, hf_aa, hf_is, hf_bs, hf_ls, hf_as, hf_al, hf_na, hf_ne, hf_oi, hf_ret0, hf_ret1, hf_ret2, hf_ret3, hf_call] at h)
  all_goals (try (repeat' split at h))
  all_goals (first | (simp at h; done) | (simp only [Option.some.injEq, Sum.inl.injEq, Prod.mk.injEq] at h; obtain ⟨-, -, -, rfl, -, -⟩ := h; first | exact hf_le_rf | exact hf_le_mk | exact hf_le_sr))
theorem hf_dthrow {i : Instr} {x : Nat} (h : hf_do i mi pc L st g I J = some (.inr (.inr (.inr x, g1, I1, J1)))) : ∃ ix, i = .new ix := by
  cases i
  case new ix => exact ⟨ix, rfl⟩
  all_goals (try simp only [hf_do, hf_ld0, hf_ld1, hf_ld2, hf_st0, hf_st1, hf_st2, hf_i2, hf_l2, hf_nx, hf_go, hf_br, hf_gf, hf_pf, hf_ia, hf_la1, hf_aa, hf_is, hf_bs, hf_ls, hf_as, hf_al, hf_na, hf_ne, hf_oi, hf_ret0, hf_ret1, hf_ret2, hf_ret3, hf_call] at h)
  all_goals (try (repeat' split at h))
  all_goals (first | (cases h; done) | (simp at h; done))
theorem hf_dcall {i : Instr} {q : Nat × List Value × List Value} (h : hf_do i mi pc L st g I J = some (.inr (.inl q))) : ∃ ix, (i = .invokestatic ix ∧ hf_call mi (hf_ml (hf_oc mi) ix) [0, 3, 6] st g = some (.inr (.inl q))) ∨
    (i = .invokevirtual ix ∧ hf_call mi (hf_ml (hf_oc mi) ix) [1, 4] st g = some (.inr (.inl q))) ∨ (i = .invokespecial ix ∧ hf_call mi (hf_ml (hf_oc mi) ix) [2, 5] st g = some (.inr (.inl q))) := by
  cases i
  case invokestatic ix => exact ⟨ix, Or.inl ⟨rfl, h⟩⟩
  case invokevirtual ix => exact ⟨ix, Or.inr (Or.inl ⟨rfl, h⟩)⟩
  case invokespecial ix =>
    refine ⟨ix, Or.inr (Or.inr ⟨rfl, ?_⟩)⟩
    simp only [hf_do] at h
    split at h
    · unfold hf_oi hf_nx at h
      repeat' (split at h)
      all_goals (cases h)
    · exact h
  all_goals (try simp only [hf_do, hf_ld0, hf_ld1, hf_ld2, hf_st0, hf_st1, hf_st2, hf_i2, hf_l2, hf_nx, hf_go, hf_br, hf_gf, hf_pf, hf_ia, hf_la1, hf_aa, hf_is, hf_bs, hf_ls, hf_as, hf_al, hf_na, hf_ne, hf_oi, hf_ret0, hf_ret1, hf_ret2, hf_ret3] at h)
  all_goals (try (repeat' split at h))
  all_goals (first | (cases h; done) | (simp at h; done))
theorem hf_ret_le {i : Instr} {v : Option Value} (h : hf_do i mi pc L st g I J = some (.inr (.inr (.inl v, g1, I1, J1)))) : hf_le g g1 := by
  by_cases hi : i = .ireturn ∨ i = .lreturn ∨ i = .areturn ∨ i = .return_
  · rcases hi with rfl | rfl | rfl | rfl
    all_goals (simp only [hf_do, hf_ret0, hf_ret1, hf_ret2, hf_ret3] at h)
    all_goals (try (repeat' split at h))
    all_goals (first | (simp at h; done) | (simp only [Option.some.injEq, Sum.inr.injEq, Prod.mk.injEq] at h; obtain ⟨-, rfl, -, -⟩ := h; exact hf_le_rf))
  · exact (hf_ndone hi h).elim
theorem hf_ne_th {ix x : Nat} (h : hf_ne mi ix pc L st g I J = some (.inr (.inr (.inr x, g1, I1, J1)))) : g1 = hf_th g := by
  unfold hf_ne hf_nx at h
  repeat' (split at h)
  all_goals (first | (simp at h; done) | (simp only [Option.some.injEq, Sum.inr.injEq, Prod.mk.injEq] at h; exact h.2.1.symm))
theorem hf_stp_le {r : hf_R} (h : hf_stp mi pc L st g I J = some (.inr (.inr r))) : hf_le g r.2.1 := by
  unfold hf_stp at h
  split at h
  · split at h
    · obtain ⟨v, g1, I1, J1⟩ := r
      rcases v with v | x
      · exact hf_ret_le h
      · obtain ⟨ix, rfl⟩ := hf_dthrow h
        have h2 : hf_ne mi ix pc L st g I J = some (.inr (.inr (.inr x, g1, I1, J1))) := h
        rw [hf_ne_th h2]
        exact hf_le_th
    · cases h
  · cases h
theorem hf_stp_le1 (h : hf_stp mi pc L st g I J = some (.inl (pc1, L1, st1, g1, I1, J1))) : hf_le g g1 := by
  unfold hf_stp at h
  split at h
  · split at h
    · exact hf_do_le h
    · cases h
  · cases h
end
theorem hf_ex_grow : ∀ (n mi pc : Nat) (L : hf_Lo) (st : List Value) (g : hf_G) (I : hf_I) (J : hf_J) (r : hf_R), hf_ex n mi pc L st g I J = some r → hf_le g r.2.1
  | 0, _, _, _, _, _, _, _, _, h => by simp [hf_ex] at h
  | n + 1, mi, pc, L, st, g, I, J, r, h => by
    rw [hf_ex] at h
    cases e : hf_stp mi pc L st g I J with
    | none => rw [e] at h; cases h
    | some o =>
      rw [e] at h
      match o, e, h with
      | .inl (pc1, L1, st1, g1, I1, J1), e, h => exact hf_le_tr (hf_stp_le1 e) (hf_ex_grow n _ _ _ _ _ _ _ _ h)
      | .inr (.inr r1), e, h =>
        cases h
        exact hf_stp_le e
      | .inr (.inl (y, as, rest)), e, h =>
        dsimp only at h
        cases e2 : hf_ex n y 0 (hf_ent (hf_nL y) as) [] g I J with
        | none => rw [e2] at h; cases h
        | some q =>
          rw [e2] at h
          have h1 := hf_ex_grow n _ _ _ _ _ _ _ _ e2
          match q, h, h1 with
          | (.inl v, g1, I1, J1), h, h1 => exact hf_le_tr h1 (hf_ex_grow n _ _ _ _ _ _ _ _ h)
          | (.inr x, g1, I1, J1), h, h1 =>
            dsimp only at h
            split at h
            · cases h
              exact h1
            · split at h
              · cases h
              · split at h
                · exact hf_le_tr h1 (hf_ex_grow n _ _ _ _ _ _ _ _ h)
                · cases h
