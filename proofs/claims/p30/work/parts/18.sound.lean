/-! THE PURE MACHINE IS RIGHT: what it answers, the machine answers -/
theorem hf_la_len : ∀ (w : hf_W) (as : List Value), (lg_sl (as.map (hf_tv w))).length = (hf_la as).length
  | _, [] => rfl
  | w, v :: as => by
    have ih := hf_la_len w as
    unfold lg_sl at ih ⊢
    rw [List.map_cons, List.flatMap_cons, List.length_append, ih, hf_la, hf_tv_cat]
    split <;> simp <;> omega
theorem hf_la_args : ∀ (w : hf_W) (as : List Value) (i j : Nat) (v : Value), (hf_la as)[j]? = some (some v) → (i + j, hf_tv w v) ∈ lv_args i (as.map (hf_tv w))
  | _, [], _, _, _, h => by simp [hf_la] at h
  | w, a :: as, i, j, v, h => by
    rw [List.map_cons, lv_args, hf_tv_cat]
    rw [hf_la] at h
    by_cases c : a.category = 2
    · rw [if_pos c] at h ⊢
      match j, h with
      | 0, h => simp at h; subst h; simp
      | 1, h => simp at h
      | j + 2, h =>
        have := hf_la_args w as (i + 2) j v (by simpa using h)
        rw [show i + 2 + j = i + (j + 2) by omega] at this
        exact List.mem_cons_of_mem _ this
    · rw [if_neg c] at h ⊢
      match j, h with
      | 0, h => simp at h; subst h; simp
      | j + 1, h =>
        have := hf_la_args w as (i + 1) j v (by simpa using h)
        rw [show i + 1 + j = i + (j + 1) by omega] at this
        exact List.mem_cons_of_mem _ this
theorem hf_entry (w : hf_W) {as : List Value} {n : Nat} (h : (hf_la as).length ≤ n) :
    hf_LR w (lg_sl (as.map (hf_tv w)) ++ List.replicate (n - (lg_sl (as.map (hf_tv w))).length) Slot.unset).toArray n (hf_ent n as) := by
  have hl := lv_entry (as.map (hf_tv w)) (n := n) (by rw [hf_la_len]; exact h)
  refine ⟨by simp [hf_ent]; omega, hl.1, hl.2.1, fun i v hi => ?_⟩
  have h2 : (hf_la as)[i]? = some (some v) := by
    unfold hf_ent at hi
    by_cases c : i < (hf_la as).length
    · rw [List.getElem?_append_left c] at hi
      exact hi
    · rw [List.getElem?_append_right (by omega), List.getElem?_replicate] at hi
      split at hi <;> simp at hi
  have h3 := hf_la_args w as 0 i v h2
  rw [Nat.zero_add] at h3
  exact hl.2.2 _ h3
theorem hf_mok_of {y : Nat} (h : y < 184) : plainFor (hf_y y) = true ∧ (hf_y y).cls ≠ "java/lang/invoke/MethodHandle" ∧ (hf_y y).cls ≠ "java/lang/invoke/VarHandle" ∧ .initialized (hf_y y).cls ∈ hf_ts ∧ hf_on (hf_oc y) = (hf_y y).cls := by
  have h1 := List.all_eq_true.mp hf_mok_all y (List.mem_range.mpr h)
  simp only [hf_mok, Bool.and_eq_true, decide_eq_true_eq] at h1
  obtain ⟨⟨⟨⟨a, b⟩, c⟩, d⟩, e⟩ := h1
  exact ⟨a, b, c, hf_has_ts d, e⟩
theorem hf_ts_good {q : Jvm.Cond} (h : q ∈ hf_ts) : goodWord q = true := (List.mem_filter.mp h).2
theorem hf_goodIn {y : Nat} (h : y < 184) (hl : y ≠ 183) : GoodIn hf_ts (hf_ws y) := by
  intro q hq
  rcases List.mem_cons.mp hq with rfl | hq
  · exact ⟨List.mem_filter.mpr ⟨hf_cw_mem h hl, hf_cw_good y⟩, good_of_word (hf_cw_good y)⟩
  · exact ⟨hq, good_of_word (hf_ts_good hq)⟩
/-- a body, of a class whose methods no entry of the table replaces -/
theorem hf_ofW {l : Launch} {y : MethodName} {ws ws' : List Jvm.Cond} {rm : Room} {Pc : Array Value → State → Prop} {Qc : Array Value → State → Outcome → State → Prop} {XC : String → State → State → Prop} {mc ms : Nat} {free : Addr → Prop} {cc : ByteArray} {maxL : Nat} {ret : Option FieldType}
    (hy : plainFor y = true) (hw : ws = Cond.code y cc maxL ret :: ws')
    (body : ∀ p e s m args below meth c s₁, BodyLoose p l y (headSpec ws rm) cc maxL ret e s m args below meth c s₁ → c.maxLocals = maxL → (∀ x ∈ c.exceptionTable.toList, False) → Pc args s →
      W p l e (headSpec ws rm).room s m args below meth c s.heap [] 0 0 (vx_MQ below Qc XC args s mc ms free) (entryFrame m args maxL)) : vx_Met l y ws rm Pc Qc XC mc ms free := by
  refine MetFree.of_bodySF (code := cc) (maxLocals := maxL) (ret := ret) hy ?_ ?_
  · intro args s m h hn
    obtain ⟨meth, c, h1, h2, h3, h4, h5, h6, -, -⟩ := Cond.code_spec hn (atoms_spec (ws := ws) h _ (by rw [hw]; exact List.mem_cons_self))
    exact ⟨meth, c, h1, h2, h3, h4, h5, h6⟩
  · intro p e s m args below meth c s₁ B hml hP _
    have hh0 : s₁.heap = s.heap := by rw [B.state]; rfl
    have ht : ∀ x ∈ c.exceptionTable.toList, False := by
      obtain ⟨meth9, c9, h1, h2, -, -, -, -, h7, -⟩ := Cond.code_spec B.named (atoms_spec (ws := ws) B.pre _ (by rw [hw]; exact List.mem_cons_self))
      cases Option.some.inj (h1.symm.trans B.method)
      cases Option.some.inj (h2.symm.trans (Stand.of_body B).code)
      intro x hx
      rw [Array.isEmpty_iff.mp h7] at hx
      cases hx
    obtain ⟨t, a1, o, b1, b2, b3⟩ := body p e s m args below meth c s₁ B hml ht hP s₁ hh0 (Stand.of_body B)
    exact ⟨t, o, a1, b1, b2, b3⟩
section
variable {w : hf_W} {mi : Nat} {p : Program} {l : Launch} {e : Env} {R : Room} {s : State} {m : MethodId} {args : Array Value} {below : List Frame} {meth : Method} {c : Code}
variable {c0 s0 : Nat} {Q : State → Prop} {pc pc1 : Nat} {L L1 : hf_Lo} {st st1 r : List Value} {g g1 : hf_G} {I I1 : hf_I} {J J1 : hf_J} {H : Heap}
/-- a method's end by a throw of its own -/
theorem hl_throw {ix x : Nat} (hC : hf_C w mi p l R s m args meth c) (hd : decode (hf_cd mi) pc = .ok (.new ix, 3)) (h : hf_ne mi ix pc L st g I J = some (.inr (.inr (.inr x, g1, I1, J1))))
    (hbc : hf_c g1 ≤ R.cells + c0) (hbs : hf_s g1 ≤ R.slots + s0) :
    hf_at w mi p l e R s m args below meth c c0 s0 (vx_MQ below (hf_Qc w (.inr x, g1, I1, J1)) (hf_XC w (.inr x, g1, I1, J1)) args s (hf_c g1 - c0) (hf_s g1 - s0) (hf_A w)) pc L st g I J := by
  obtain ⟨hx0, hb, hr, hml, hown, hts, hlk, htab, hnm, hfr, hlo, hKW, hst⟩ := hC
  intro H locs ls cells slots hH hS hL hc hs hx
  have core : ∀ (x is ic : Nat) (wide : Bool) (text : String), hf_tt.lookup (hf_oc mi, ix, is, ic) = some (x, wide, text) → st = [] → hf_hh mi = [] → 6 ≤ hf_fr mi → 90 ≤ hf_lo mi → hf_cl (hf_oc mi) ix = some (100 + x) → g1 = hf_th g → I1 = I → J1 = J →
      ((wide = false ∧ decode (hf_cd mi) (pc + 3) = .ok (.dup, 1) ∧ decode (hf_cd mi) (pc + 4) = .ok (.ldc is, 2) ∧ decode (hf_cd mi) (pc + 6) = .ok (.invokespecial ic, 3) ∧ decode (hf_cd mi) (pc + 9) = .ok (.athrow, 1)) ∨
       (wide = true ∧ decode (hf_cd mi) (pc + 3) = .ok (.dup, 1) ∧ decode (hf_cd mi) (pc + 4) = .ok (.ldc_w is, 3) ∧ decode (hf_cd mi) (pc + 7) = .ok (.invokespecial ic, 3) ∧ decode (hf_cd mi) (pc + 10) = .ok (.athrow, 1))) →
      W p l e R s m args below meth c H locs cells slots (vx_MQ below (hf_Qc w (.inr x, g1, I1, J1)) (hf_XC w (.inr x, g1, I1, J1)) args s (hf_c g1 - c0) (hf_s g1 - s0) (hf_A w)) (F0 m pc ls (st.map (hf_tv w))) := by
    intro x is ic wide text hlu est ehh efr elo ecl eg eI eJ hdec
    subst est eg eI eJ
    have hin := hf_lt_in (b := (0, 0, 0, 0)) hlu
    obtain ⟨q1, q2⟩ := hf_tt_x _ hin
    dsimp only at q1 q2
    obtain ⟨w1, w2, w3⟩ := hf_xg x ic ix q2
    obtain ⟨sa, hsa⟩ := hKW.2.2.2.2.2.2.2.1 _ hin
    dsimp only at hsa
    obtain ⟨a1, a2, hok⟩ := hf_cl_ok ecl
    rw [hf_clok, if_neg (by omega)] at hok
    simp only [Bool.and_eq_true, decide_eq_true_eq] at hok
    obtain ⟨⟨b1, b2⟩, hlink⟩ := hok
    rw [show 100 + x - 100 = x by omega] at b1 b2 hlink
    have hon : hf_on (hf_oc mi) = hf_on 11 := by rw [q1]
    have hlinkw := hts _ (hf_has_ts hlink)
    rw [hon] at hown hlinkw
    rw [q1] at hsa
    have hat : ∀ q ∈ vx_atS (hf_on 11) ic (hf_en x) hf_xn, q.before args s = true := fun q hq => by
      obtain ⟨z1, z2⟩ := w1 q hq
      rcases z2 with z2 | z2
      · exact hts q (List.mem_filter.mpr ⟨z1, z2⟩)
      · exact va_Nw.use (hf_isN_tab z2) (hKW.2.2.2.2.2.2.2.2.1 q (List.mem_filter.mpr ⟨z1, z2⟩))
    have hgood : ∀ q ∈ Cond.classLink (hf_on 11) ix (hf_en x) :: Cond.initialized (hf_en x) :: vx_atS (hf_on 11) ic (hf_en x) hf_xn, vx_ot q = true := fun q hq => by
      rcases List.mem_cons.mp hq with rfl | hq
      · rfl
      · rcases List.mem_cons.mp hq with rfl | hq
        · rfl
        · rcases (w1 q hq).2 with z | z
          · simp [vx_ot, z]
          · simp [vx_ot, hf_isN_tab z]
    have hout : ∀ (k : Nat), ∀ z ∈ c.exceptionTable.toList, covers z k = false := fun k z hz => by
      rw [htab, ehh] at hz
      cases hz
    have hXC : ∀ t : State, s.vm.Alike t.vm → H.size + 1 ≤ t.heap.size → (∀ q : Nat, q < H.size → t.heap[q]? = H[q]?) → hf_XC w (.inr x, hf_th g, I1, J1) (hf_en x) s t := fun t _ h1 h2 =>
      ⟨x, rfl, b1, b2, rfl, hH.th h1 h2, ⟨Nat.le_trans hS.1 (Nat.le_of_succ_le h1), fun q h3 h4 => (h2 q (Nat.lt_of_lt_of_le h3 hS.1)).trans (hS.2.1 q h3 h4)⟩⟩
    have ec : hf_c (hf_th g) = hf_c g + 1 := rfl
    have es : hf_s (hf_th g) = hf_s g + 6 := rfl
    have hlen : hf_xn.length = 2 := rfl
    have hls : ls.size = c.maxLocals := by rw [hml]; exact hL.2.1
    rcases hdec with ⟨-, d3, d4, d6, d9⟩ | ⟨-, d3, d4, d6, d9⟩
    · exact vx_throwS hx0 hb hst hown w2 hf_xfit hlinkw (hts _ w3) hsa hat hgood hKW.2.2.2.2.2.1 hKW.2.2.2.2.2.2.1 hS hls hd d3 d4 d6 d9 (hout _) (by rw [hlen]; omega) (by rw [hlen]; simp; omega) (by omega) (by omega) hlk hXC hS.2.2 (by omega) (by omega)
    · exact vx_throwSW hx0 hb hst hown w2 hf_xfit hlinkw (hts _ w3) hsa hat hgood hKW.2.2.2.2.2.1 hKW.2.2.2.2.2.2.1 hS hls hd d3 d4 d6 d9 (hout _) (by rw [hlen]; omega) (by rw [hlen]; simp; omega) (by omega) (by omega) hlk hXC hS.2.2 (by omega) (by omega)
  unfold hf_ne at h
  split at h
  · cases h
  · rename_i cx hcx
    split at h
    · unfold hf_nx at h
      split at h <;> cases h
    · rename_i hc100
      split at h
      · rename_i hcond
        obtain ⟨e1, e2, e3, e4⟩ := hcond
        split at h
        · rename_i is d3 d4
          split at h
          · rename_i ic d6 d9
            split at h
            · rename_i y text hlu
              split at h
              · rename_i hy
                simp only [Option.some.injEq, Sum.inr.injEq, Prod.mk.injEq] at h
                obtain ⟨rfl, rfl, rfl, rfl⟩ := h
                exact core _ is ic false text hlu e1 e2 e3 e4 (by rw [hcx, hy]; congr 1; omega) rfl rfl rfl (Or.inl ⟨rfl, d3, d4, d6, d9⟩)
              · cases h
            · cases h
          · cases h
        · rename_i is d3 d4
          split at h
          · rename_i ic d6 d9
            split at h
            · rename_i y text hlu
              split at h
              · rename_i hy
                simp only [Option.some.injEq, Sum.inr.injEq, Prod.mk.injEq] at h
                obtain ⟨rfl, rfl, rfl, rfl⟩ := h
                exact core _ is ic true text hlu e1 e2 e3 e4 (by rw [hcx, hy]; congr 1; omega) rfl rfl rfl (Or.inr ⟨rfl, d3, d4, d6, d9⟩)
              · cases h
            · cases h
          · cases h
        · cases h
      · cases h
end
