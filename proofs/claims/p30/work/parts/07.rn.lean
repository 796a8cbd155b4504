theorem hf_rn_eq {mi pc mi2 pc2 : Nat} {L L2 : hf_Lo} {st st2 : List Value} {g g2 : hf_G} {I I2 : hf_I} {J J2 : hf_J}
    (h1 : ∀ n r, hf_ex n mi pc L st g I J = some r → ∃ n2, hf_ex n2 mi2 pc2 L2 st2 g2 I2 J2 = some r) (h2 : ∀ n r, hf_ex n mi2 pc2 L2 st2 g2 I2 J2 = some r → ∃ n2, hf_ex n2 mi pc L st g I J = some r) :
    hf_rn mi pc L st g I J = hf_rn mi2 pc2 L2 st2 g2 I2 J2 := by
  cases e : hf_rn mi2 pc2 L2 st2 g2 I2 J2 with
  | some r =>
    obtain ⟨n, hn⟩ := hf_rn_ex e
    obtain ⟨n2, hn2⟩ := h2 n r hn
    exact hf_rn_of hn2
  | none =>
    refine hf_rn_none fun n r h => ?_
    obtain ⟨n2, hn2⟩ := h1 n r h
    rw [hf_rn_of hn2] at e
    cases e
section
variable {mi pc : Nat} {L L2 : hf_Lo} {st st2 : List Value} {g g2 : hf_G} {I I2 : hf_I} {J J2 : hf_J}
theorem hf_rn_nx {pc2 : Nat} (h : hf_stp mi pc L st g I J = hf_nx pc2 L2 st2 g2 I2 J2) : hf_rn mi pc L st g I J = hf_rn mi pc2 L2 st2 g2 I2 J2 := by
  refine hf_rn_eq (fun n r q => ?_) (fun n r q => ⟨n + 1, ?_⟩)
  · cases n with
    | zero => cases q
    | succ n =>
      rw [hf_ex, h] at q
      exact ⟨n, q⟩
  · rw [hf_ex, h]
    exact q
theorem hf_rn_done {r : hf_R} (h : hf_stp mi pc L st g I J = some (.inr (.inr r))) : hf_rn mi pc L st g I J = some r := by
  refine hf_rn_of (n := 1) ?_
  rw [hf_ex, h]
theorem hf_rn_br {x : Prop} [Decidable x] {off : Int} {tgt : Nat} (h : hf_stp mi pc L st g I J = hf_br (decide x) pc off L2 st2 g I J) (ht : (decide (0 ≤ (pc : Int) + off) && decide (hf_tg pc off = tgt)) = true) :
    hf_rn mi pc L st g I J = if x then hf_rn mi tgt L2 st2 g I J else hf_rn mi (pc + 3) L2 st2 g I J := by
  simp only [Bool.and_eq_true, decide_eq_true_eq] at ht
  rw [hf_br, if_pos ht.1, ht.2] at h
  by_cases c : x
  · rw [if_pos c]
    rw [if_pos (decide_eq_true c)] at h
    exact hf_rn_nx h
  · rw [if_neg c]
    rw [if_neg (by simp [c])] at h
    exact hf_rn_nx h
theorem hf_rn_go {off : Int} {tgt : Nat} (h : hf_stp mi pc L st g I J = hf_go pc off L2 st2 g I J) (ht : (decide (0 ≤ (pc : Int) + off) && decide (hf_tg pc off = tgt)) = true) :
    hf_rn mi pc L st g I J = hf_rn mi tgt L2 st2 g I J := by
  simp only [Bool.and_eq_true, decide_eq_true_eq] at ht
  rw [hf_go, if_pos ht.1, ht.2] at h
  exact hf_rn_nx h
/-- what comes of a callee's answer -/
noncomputable def hf_bd (mi pc : Nat) (L : hf_Lo) (rest : List Value) (q : Option hf_R) : Option hf_R := match q with
  | none => none
  | some (.inl v, g1, I1, J1) => hf_rn mi (pc + 3) L (v.toList ++ rest) g1 I1 J1
  | some (.inr x, g1, I1, J1) => if hf_hh mi = [] then some (.inr x, g1, I1, J1) else match hf_hd mi pc x with
    | none => none
    | some (pc1, k) => if k < L.length then hf_rn mi pc1 (hf_kl L k) [] g1 I1 J1 else none
theorem hf_rn_call {y : Nat} {as rest : List Value} (h : hf_stp mi pc L st g I J = some (.inr (.inl (y, as, rest)))) : hf_rn mi pc L st g I J = hf_bd mi pc L rest (hf_rn y 0 (hf_ent (hf_nL y) as) [] g I J) := by
  cases e : hf_rn y 0 (hf_ent (hf_nL y) as) [] g I J with
  | none =>
    refine hf_rn_none fun n r q => ?_
    cases n with
    | zero => cases q
    | succ n =>
      rw [hf_ex, h] at q
      dsimp only at q
      cases e2 : hf_ex n y 0 (hf_ent (hf_nL y) as) [] g I J with
      | none => rw [e2] at q; cases q
      | some z => rw [hf_rn_of e2] at e; cases e
  | some z =>
    obtain ⟨n0, h0⟩ := hf_rn_ex e
    have key : ∀ n z2, hf_ex n y 0 (hf_ent (hf_nL y) as) [] g I J = some z2 → z2 = z := fun n z2 q => by
      have := hf_rn_of q
      rw [e] at this
      exact (Option.some.inj this).symm
    match z, h0, key with
    | (.inl v, g1, I1, J1), h0, key =>
      refine hf_rn_eq (fun n r q => ?_) (fun n r q => ⟨max n0 n + 1, ?_⟩)
      · cases n with
        | zero => cases q
        | succ n =>
          rw [hf_ex, h] at q
          dsimp only at q
          cases e2 : hf_ex n y 0 (hf_ent (hf_nL y) as) [] g I J with
          | none => rw [e2] at q; cases q
          | some z2 =>
            rw [e2, key n z2 e2] at q
            exact ⟨n, q⟩
      · rw [hf_ex, h]
        dsimp only
        rw [hf_ex_le h0 (Nat.le_max_left n0 n)]
        exact hf_ex_le q (Nat.le_max_right n0 n)
    | (.inr x, g1, I1, J1), h0, key =>
      rw [hf_bd]
      by_cases c : hf_hh mi = []
      · rw [if_pos c]
        refine hf_rn_of (n := n0 + 1) ?_
        rw [hf_ex, h]
        dsimp only
        rw [h0]
        dsimp only
        rw [if_pos c]
      · rw [if_neg c]
        have none_case : (∀ n, hf_ex (n + 1) mi pc L st g I J = match hf_ex n y 0 (hf_ent (hf_nL y) as) [] g I J with
            | none => none
            | some (.inl v, g1, I1, J1) => hf_ex n mi (pc + 3) L (v.toList ++ rest) g1 I1 J1
            | some (.inr x, g1, I1, J1) => if hf_hh mi = [] then some (.inr x, g1, I1, J1) else match hf_hd mi pc x with
              | none => none
              | some (pc1, k) => if k < L.length then hf_ex n mi pc1 (hf_kl L k) [] g1 I1 J1 else none) := fun n => by rw [hf_ex, h]; rfl
        cases e3 : hf_hd mi pc x with
        | none =>
          refine hf_rn_none fun n r q => ?_
          cases n with
          | zero => cases q
          | succ n =>
            rw [none_case] at q
            cases e2 : hf_ex n y 0 (hf_ent (hf_nL y) as) [] g I J with
            | none => rw [e2] at q; cases q
            | some z2 =>
              rw [e2, key n z2 e2] at q
              dsimp only at q
              rw [if_neg c, e3] at q
              cases q
        | some w =>
          obtain ⟨p1, k⟩ := w
          dsimp only
          by_cases c2 : k < L.length
          · rw [if_pos c2]
            refine hf_rn_eq (fun n r q => ?_) (fun n r q => ⟨max n0 n + 1, ?_⟩)
            · cases n with
              | zero => cases q
              | succ n =>
                rw [none_case] at q
                cases e2 : hf_ex n y 0 (hf_ent (hf_nL y) as) [] g I J with
                | none => rw [e2] at q; cases q
                | some z2 =>
                  rw [e2, key n z2 e2] at q
                  dsimp only at q
                  rw [if_neg c, e3] at q
                  dsimp only at q
                  rw [if_pos c2] at q
                  exact ⟨n, q⟩
            · rw [none_case, hf_ex_le h0 (Nat.le_max_left n0 n)]
              dsimp only
              rw [if_neg c, e3]
              dsimp only
              rw [if_pos c2]
              exact hf_ex_le q (Nat.le_max_right n0 n)
          · rw [if_neg c2]
            refine hf_rn_none fun n r q => ?_
            cases n with
            | zero => cases q
            | succ n =>
              rw [none_case] at q
              cases e2 : hf_ex n y 0 (hf_ent (hf_nL y) as) [] g I J with
              | none => rw [e2] at q; cases q
              | some z2 =>
                rw [e2, key n z2 e2] at q
                dsimp only at q
                rw [if_neg c, e3] at q
                dsimp only at q
                rw [if_neg c2] at q
                cases q
theorem hf_stp_of {i : Instr} {len : Nat} {cc : ByteArray} (hc : hf_cd mi = cc) (hd : decode cc pc = .ok (i, len)) (hl : len = hf_len i len) : hf_stp mi pc L st g I J = hf_do i mi pc L st g I J := by
  rw [hf_stp, hc, hd]
  exact if_pos hl
end
