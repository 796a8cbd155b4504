/-! HOW A METHOD ENDS: by a return, by a throw -/
def hf_xn : List String := ["java/lang/RuntimeException", "java/lang/Exception"]
def hf_xw (x ic : Nat) : List Jvm.Cond := vx_atS (hf_on 11) ic (hf_en x) hf_xn
theorem hf_xw1 : (hf_xw 1 95).all (fun q => decide (q ∈ lw_tbl) && (goodWord q || hf_isN q)) = true := by decide +kernel
theorem hf_xw2 : (hf_xw 2 150).all (fun q => decide (q ∈ lw_tbl) && (goodWord q || hf_isN q)) = true := by decide +kernel
theorem hf_xw3 : (hf_xw 3 120).all (fun q => decide (q ∈ lw_tbl) && (goodWord q || hf_isN q)) = true := by decide +kernel
theorem hf_xg : ∀ x ic ik : Nat, (x = 1 ∧ ic = 95 ∧ ik = 91) ∨ (x = 2 ∧ ic = 150 ∧ ik = 146) ∨ (x = 3 ∧ ic = 120 ∧ ik = 116) →
    (∀ q ∈ hf_xw x ic, q ∈ lw_tbl ∧ (goodWord q = true ∨ hf_isN q = true)) ∧ Bundle.fit (hf_en x) = true ∧ .initialized (hf_en x) ∈ hf_ts := by
  have h0 : ∀ l : List Jvm.Cond, l.all (fun q => decide (q ∈ lw_tbl) && (goodWord q || hf_isN q)) = true → ∀ q ∈ l, q ∈ lw_tbl ∧ (goodWord q = true ∨ hf_isN q = true) := fun l h q hq => by
    have := List.all_eq_true.mp h q hq
    simp only [Bool.and_eq_true, Bool.or_eq_true, decide_eq_true_eq] at this
    exact this
  have h1 : (decide (Jvm.Cond.initialized (hf_en 1) ∈ tables_1) && decide (Jvm.Cond.initialized (hf_en 2) ∈ tables_1) && decide (Jvm.Cond.initialized (hf_en 3) ∈ tables_1)) = true := by decide +kernel
  simp only [Bool.and_eq_true, decide_eq_true_eq] at h1
  intro x ic ik h
  rcases h with ⟨rfl, rfl, rfl⟩ | ⟨rfl, rfl, rfl⟩ | ⟨rfl, rfl, rfl⟩
  · exact ⟨h0 _ hf_xw1, by decide +kernel, List.mem_filter.mpr ⟨List.mem_append_right _ h1.1.1, rfl⟩⟩
  · exact ⟨h0 _ hf_xw2, by decide +kernel, List.mem_filter.mpr ⟨List.mem_append_right _ h1.1.2, rfl⟩⟩
  · exact ⟨h0 _ hf_xw3, by decide +kernel, List.mem_filter.mpr ⟨List.mem_append_right _ h1.2, rfl⟩⟩
theorem hf_xfit : ∀ n ∈ hf_xn, Bundle.fit n = true := by decide +kernel
def hf_Qc (w : hf_W) (q : hf_R) : Array Value → State → Outcome → State → Prop := fun _ st o t => ∃ v, q.1 = .inl v ∧ o = .returned (v.map (hf_tv w)) ∧ hf_HR w q.2.1 q.2.2.1 q.2.2.2 t.heap ∧ va_F (hf_A w) st t
def hf_XC (w : hf_W) (q : hf_R) : String → State → State → Prop := fun E st t => ∃ x, q.1 = .inr x ∧ 1 ≤ x ∧ x ≤ 3 ∧ E = hf_en x ∧ hf_HR w q.2.1 q.2.2.1 q.2.2.2 t.heap ∧ va_F (hf_A w) st t
def hf_Pc (w : hf_W) (as : List Value) (g : hf_G) (I : hf_I) (J : hf_J) : Array Value → State → Prop :=
  va_Pc (as.map (hf_tv w)) (fun U => hf_HR w g I J U.heap ∧ hf_KW w U U.heap ∧ (hf_e g = true → U.heap.size ≤ hf_Z w + hf_n g))
section
variable {w : hf_W} {mi : Nat} {p : Program} {l : Launch} {e : Env} {R : Room} {s : State} {m : MethodId} {args : Array Value} {below : List Frame} {meth : Method} {c : Code}
variable {c0 s0 : Nat} {pc pc1 : Nat} {L L1 : hf_Lo} {st st1 r : List Value} {g g1 : hf_G} {I I1 : hf_I} {J J1 : hf_J} {H : Heap}
theorem hf_lt_in {a b : Nat × Nat × Nat × Nat} {q : Nat × Bool × String} : ∀ {T : List ((Nat × Nat × Nat × Nat) × Nat × Bool × String)}, T.lookup a = some q → (a, q) ∈ T
  | [], h => by simp at h
  | (z, y) :: T, h => by
    rw [List.lookup_cons] at h
    by_cases e : a = z
    · subst e
      simp at h
      subst h
      exact List.mem_cons_self
    · have e2 : (a == z) = false := by simp [e]
      rw [e2] at h
      exact List.mem_cons_of_mem _ (hf_lt_in (b := b) h)
theorem hf_tt_x : ∀ q ∈ hf_tt, q.1.1 = 11 ∧ ((q.2.1 = 1 ∧ q.1.2.2.2 = 95 ∧ q.1.2.1 = 91) ∨ (q.2.1 = 2 ∧ q.1.2.2.2 = 150 ∧ q.1.2.1 = 146) ∨ (q.2.1 = 3 ∧ q.1.2.2.2 = 120 ∧ q.1.2.1 = 116)) := by decide +kernel
theorem hf_nend {o : hf_R} {o2 : hf_Q} (h : (some (.inl o2) : Option hf_O) = some (.inr (.inr o))) : False := by cases h
theorem hf_nnend {o : hf_R} (h : (none : Option hf_O) = some (.inr (.inr o))) : False := by cases h
/-- no other instruction returns -/
theorem hf_ndone {i : Instr} {v : Option Value} (hi : ¬ (i = .ireturn ∨ i = .lreturn ∨ i = .areturn ∨ i = .return_)) (h : hf_do i mi pc L st g I J = some (.inr (.inr (.inl v, g1, I1, J1)))) : False := by
  cases i
  case ireturn => exact hi (Or.inl rfl)
  case lreturn => exact hi (Or.inr (Or.inl rfl))
  case areturn => exact hi (Or.inr (Or.inr (Or.inl rfl)))
  case return_ => exact hi (Or.inr (Or.inr (Or.inr rfl)))
  all_goals (try simp only [hf_do, hf_ld0, hf_ld1, hf_ld2, hf_st0, hf_st1, hf_st2, hf_i2, hf_l2, hf_nx, hf_go, hf_br, hf_gf, hf_pf, hf_ia, hf_la1, hf_aa, hf_is, hf_bs, hf_ls, hf_as, hf_al, hf_na, hf_ne, hf_oi, hf_call] at h)
  all_goals (try (repeat' split at h))
  all_goals (first | (cases h; done) | (simp at h; done))
/-- a method's end by a return -/
theorem hf_end {i : Instr} {len : Nat} {v : Option Value} (hC : hf_C w mi p l R s m args meth c) (hd : decode (hf_cd mi) pc = .ok (i, len)) (hlen : len = hf_len i len) (h : hf_do i mi pc L st g I J = some (.inr (.inr (.inl v, g1, I1, J1)))) :
    hf_at w mi p l e R s m args below meth c c0 s0 (vx_MQ below (hf_Qc w (.inl v, g1, I1, J1)) (hf_XC w (.inl v, g1, I1, J1)) args s (hf_c g1 - c0) (hf_s g1 - s0) (hf_A w)) pc L st g I J := by
  obtain ⟨hx0, hb, hr, hml, hown, hts, hlk, htab, hnm, hfr, hlo, hKW, hst⟩ := hC
  intro H locs ls cells slots hH hS hL hc hs hx
  have hq : ∀ (v : Option Value) (t : State), t.heap = H → s.WarmedH t.vm → hf_Qc w (.inl v, g, I, J) args s (.returned (v.map (hf_tv w))) t := fun v t ht _ =>
    ⟨v, rfl, rfl, by rw [ht]; exact hH, by rw [ht]; exact hS.1, fun q h1 h2 => by rw [ht]; exact hS.2.1 q h1 h2⟩
  have hc9 : hf_c g - c0 = cells := by omega
  have hs9 : hf_s g - s0 = slots := by omega
  cases i with
  | ireturn =>
    have hlen : len = 1 := hlen
    subst hlen
    change hf_ret0 mi st g I J = _ at h
    unfold hf_ret0 at h
    split at h
    · rename_i x
      split at h
      · rename_i hrt
        simp only [Option.some.injEq, Sum.inr.injEq, Prod.mk.injEq, Sum.inl.injEq] at h
        obtain ⟨rfl, rfl, rfl, rfl⟩ := h
        rw [hc9, hs9]
        rcases hrt with hrt | ⟨hrt, h01⟩
        · exact vx_ret (W.zret hx0 hb (hr.trans hrt) rfl (hq (some (.int x))) hS.2.2 hd hlk)
        · exact vx_ret (W.zret hx0 hb (hr.trans hrt) (by rcases h01 with rfl | rfl <;> decide +kernel) (hq (some (.int x))) hS.2.2 hd hlk)
      · cases h
    · cases h
  | lreturn =>
    have hlen : len = 1 := hlen
    subst hlen
    change hf_ret1 mi st g I J = _ at h
    unfold hf_ret1 at h
    split at h
    · rename_i x
      split at h
      · rename_i hrt
        simp only [Option.some.injEq, Sum.inr.injEq, Prod.mk.injEq, Sum.inl.injEq] at h
        obtain ⟨rfl, rfl, rfl, rfl⟩ := h
        rw [hc9, hs9]
        exact vx_ret (W.lret hx0 hb (hr.trans hrt) (hq (some (.long x))) hS.2.2 hd hlk)
      · cases h
    · cases h
  | areturn =>
    have hlen : len = 1 := hlen
    subst hlen
    change hf_ret2 mi st g I J = _ at h
    unfold hf_ret2 at h
    split at h
    · rename_i x
      split at h
      · rename_i hrt
        simp only [Option.some.injEq, Sum.inr.injEq, Prod.mk.injEq, Sum.inl.injEq] at h
        obtain ⟨rfl, rfl, rfl, rfl⟩ := h
        rw [hc9, hs9]
        unfold hf_isO at hrt
        split at hrt
        · rename_i n hrt2
          exact vx_ret (W.aret hx0 hb (hr.trans hrt2) (Or.inl ⟨_, rfl⟩) (Or.inr ⟨_, rfl⟩) (hq (some (.ref x))) hS.2.2 hd hlk)
        · cases hrt
      · cases h
    · cases h
  | return_ =>
    have hlen : len = 1 := hlen
    subst hlen
    change hf_ret3 mi st g I J = _ at h
    unfold hf_ret3 at h
    split at h
    · split at h
      · rename_i hrt
        simp only [Option.some.injEq, Sum.inr.injEq, Prod.mk.injEq, Sum.inl.injEq] at h
        obtain ⟨rfl, rfl, rfl, rfl⟩ := h
        rw [hc9, hs9]
        exact vx_ret (W.vret hx0 hb (hr.trans hrt) (hq none) hS.2.2 hd hlk)
      · cases h
    · cases h
  | _ => exact (hf_ndone (by rintro (h | h | h | h) <;> cases h) h).elim
end
