/-! THE PURE MACHINE IS RIGHT: calls, and the whole run -/
/-- what is to be shown of runs of n steps -/
def hf_Ok (n : Nat) : Prop := ∀ (w : hf_W) (mi : Nat) (p : Program) (l : Launch) (e : Env) (R : Room) (s : State) (m : MethodId) (args : Array Value) (below : List Frame) (meth : Method) (c : Code) (c0 s0 pc : Nat) (L : hf_Lo) (st : List Value) (g : hf_G) (I : hf_I) (J : hf_J) (fin : hf_R),
  hf_C w mi p l R s m args meth c → hf_ex n mi pc L st g I J = some fin → hf_c fin.2.1 ≤ R.cells + c0 → hf_s fin.2.1 ≤ R.slots + s0 → c0 ≤ hf_c g → s0 ≤ hf_s g →
  hf_at w mi p l e R s m args below meth c c0 s0 (vx_MQ below (hf_Qc w fin) (hf_XC w fin) args s (hf_c fin.2.1 - c0) (hf_s fin.2.1 - s0) (hf_A w)) pc L st g I J
def hf_rm (y : Nat) (g : hf_G) (fin : hf_R) : Room := { frames := hf_fr y, cells := hf_c fin.2.1 - hf_c g, slots := hf_s fin.2.1 - hf_s g, locals := hf_lo y }
theorem hf_Pc_blind {w : hf_W} {as : List Value} {g : hf_G} {I : hf_I} {J : hf_J} : FrameBlind (hf_Pc w as g I J) := by
  intro a U gg mk h
  obtain ⟨h1, h2, h3, h4⟩ := h
  exact ⟨h1, h2, hf_KW.go (U := U.calling gg mk a) h3 (State.WarmedH.refl U) (Nat.le_refl _) (fun _ _ _ => rfl), h4⟩
theorem hf_hh_all : (List.range 184).all (fun y => decide (hf_hh y = []) || plainName (hf_y y).cls) = true := by decide +kernel
theorem hf_hh_plain {y : Nat} (h : y < 184) : hf_hh y = [] ∨ plainName (hf_y y).cls = true := by
  have h1 := List.all_eq_true.mp hf_hh_all y (List.mem_range.mpr h)
  simp only [Bool.or_eq_true, decide_eq_true_eq] at h1
  exact h1
theorem hf_met {n : Nat} (ih : hf_Ok n) {w : hf_W} {l : Launch} (hst : l.stackTraces = false) {y : Nat} (hy : y < 184) (hl : y ≠ 183) {as : List Value} {g : hf_G} {I : hf_I} {J : hf_J} {fin : hf_R} (has : (hf_la as).length ≤ hf_nL y)
    (h : hf_ex n y 0 (hf_ent (hf_nL y) as) [] g I J = some fin) : vx_Met l (hf_y y) (hf_ws y) (hf_rm y g fin) (hf_Pc w as g I J) (hf_Qc w fin) (hf_XC w fin) (hf_c fin.2.1 - hf_c g) (hf_s fin.2.1 - hf_s g) (hf_A w) := by
  obtain ⟨k1, k2, k3, k4, k5⟩ := hf_mok_of hy
  obtain ⟨le1, le2, -⟩ := hf_ex_grow _ _ _ _ _ _ _ _ _ h
  have body : ∀ (p : Program) (e : Env) (s : State) (m : MethodId) (args : Array Value) (below : List Frame) (meth : Method) (c : Code) (s₁ : State), BodyLoose p l (hf_y y) (headSpec (hf_ws y) (hf_rm y g fin)) (hf_cd y) (hf_nL y) (hf_rt y) e s m args below meth c s₁ → c.maxLocals = hf_nL y → c.exceptionTable.toList = tableOf (hf_hh y) → hf_Pc w as g I J args s →
      W p l e (headSpec (hf_ws y) (hf_rm y g fin)).room s m args below meth c s.heap [] 0 0 (vx_MQ below (hf_Qc w fin) (hf_XC w fin) args s (hf_c fin.2.1 - hf_c g) (hf_s fin.2.1 - hf_s g) (hf_A w)) (entryFrame m args (hf_nL y)) := by
    intro p e s m args below meth c s₁ B hml htab hP
    obtain ⟨rfl, hH, hKW, hx⟩ := hP
    have hts0 : ∀ q ∈ hf_ws y, q.before (as.map (hf_tv w)).toArray s = true := atoms_spec (ws := hf_ws y) B.pre
    have hC : hf_C w y p l (headSpec (hf_ws y) (hf_rm y g fin)).room s m (as.map (hf_tv w)).toArray meth c :=
      ⟨B.exec, B.bytes, B.returns, hml, by rw [k5]; exact findClass_of_methodNamed B.named, fun q hq => hts0 q (List.mem_cons_of_mem _ hq), B.notSynchronized, htab, (name_of_methodNamed B.named B.method).1, Nat.le_refl _, Nat.le_refl _, hKW, hst⟩
    rw [lg_entry_eq]
    have rc : (headSpec (hf_ws y) (hf_rm y g fin)).room.cells = hf_c fin.2.1 - hf_c g := rfl
    have rs : (headSpec (hf_ws y) (hf_rm y g fin)).room.slots = hf_s fin.2.1 - hf_s g := rfl
    exact ih w y p l e _ s m _ below meth c (hf_c g) (hf_s g) 0 _ [] g I J fin hC h (by rw [rc]; omega) (by rw [rs]; omega) (Nat.le_refl _) (Nat.le_refl _) s.heap [] _ 0 0 hH va_S.rf (hf_entry w has) (Nat.zero_add _) (Nat.zero_add _) (fun q => hx q)
  by_cases hh : hf_hh y = []
  · have hw : hf_ws y = Cond.code (hf_y y) (hf_cd y) (hf_nL y) (hf_rt y) :: hf_ts := by rw [hf_ws, hf_cw, if_pos hh]
    refine hf_ofW (cc := hf_cd y) (maxL := hf_nL y) (ret := hf_rt y) k1 hw ?_
    intro p e s m args below meth c s₁ B hml htab hP
    refine body p e s m args below meth c s₁ B hml ?_ hP
    rw [hh]
    exact List.eq_nil_iff_forall_not_mem.mpr fun x hx => htab x hx
  · have hw : hf_ws y = Cond.codeWith (hf_y y) (hf_cd y) (hf_nL y) (hf_rt y) (hf_hh y) :: hf_ts := by rw [hf_ws, hf_cw, if_neg hh]
    have hpl : plainName (hf_y y).cls = true := by
      have := hf_hh_plain hy
      rcases this with z | z
      · exact absurd z hh
      · exact z
    refine vx_ofWH (cc := hf_cd y) (maxL := hf_nL y) (ret := hf_rt y) (hh := hf_hh y) hpl hw ?_
    intro p e s m args below meth c s₁ B hml hP
    refine body p e s m args below meth c s₁ B hml ?_ hP
    exact vx_table (x := hf_y y) B (atoms_spec (ws := hf_ws y) B.pre _ (by rw [hw]; exact List.mem_cons_self))
section
variable {w : hf_W} {mi : Nat} {p : Program} {l : Launch} {e : Env} {R : Room} {s : State} {m : MethodId} {args : Array Value} {below : List Frame} {meth : Method} {c : Code}
variable {c0 s0 : Nat} {Q : State → Prop} {pc pc1 : Nat} {L L1 : hf_Lo} {st st1 r rest : List Value} {g g1 : hf_G} {I I1 : hf_I} {J J1 : hf_J} {H : Heap}
/-- a call, once the callee's contract stands: the run goes on behind it, or an exception comes -/
theorem hf_run {i : Instr} {y : Nat} {as : List Value} {fin : hf_R} {n : Nat} (ih : hf_Ok n) (hC : hf_C w mi p l R s m args meth c) (hd : decode (hf_cd mi) pc = .ok (i, 3)) (h : hf_do i mi pc L st g I J = some (.inr (.inl (y, as, rest))))
    (hex : hf_ex n y 0 (hf_ent (hf_nL y) as) [] g I J = some fin) (hbc : hf_c fin.2.1 ≤ R.cells + c0) (hbs : hf_s fin.2.1 ≤ R.slots + s0) {locs : List Loc} {ls : Array Slot} {cells slots : Nat} {T : State}
    (hH : hf_HR w g I J H) (hS : va_S (hf_A w) s.heap H locs) (hL : hf_LR w ls (hf_nL mi) L) (hc : cells + c0 = hf_c g) (hs : slots + s0 = hf_s g) (hx : hf_e g = true → s.heap.size + cells ≤ hf_Z w + hf_n g) (hT : T.heap = H) (X : Stand p l e R s m args below meth c T locs cells slots) :
    vx_Run p l e R s m args below meth c H locs cells slots (hf_c fin.2.1 - hf_c g) (hf_s fin.2.1 - hf_s g) (F0 m pc ls (st.map (hf_tv w))) (rest.map (hf_tv w)) (hf_Qc w fin (as.map (hf_tv w)).toArray) (hf_XC w fin) (hf_A w) := by
  obtain ⟨hx0, hb, hr, hml, hown, hts, hlk, htab, hnm, hfr, hlo, hKW, hst⟩ := hC
  obtain ⟨le1, le2, -⟩ := hf_ex_grow _ _ _ _ _ _ _ _ _ hex
  have hsz : hf_e g = true → H.size ≤ hf_Z w + hf_n g := fun q => by
    have h1 := X.heapSize
    rw [hT] at h1
    have := hx q
    omega
  have hK2 : ∀ U : State, U.heap = H → s.WarmedH U.vm → hf_KW w U U.heap := fun U hU hW => hKW.go hW (by rw [hU]; exact hS.1) (fun a h1 h2 => by rw [hU]; exact hS.2.1 a h1 h2)
  have hPs : ∀ (av : Array Value), av = (as.map (hf_tv w)).toArray → ∀ U : State, U.heap = H → s.WarmedH U.vm → hf_Pc w as g I J av U := fun av hav U hU hW => ⟨hav, by rw [hU]; exact hH, hK2 U hU hW, fun q => by rw [hU]; exact hsz q⟩
  have hgl : ls.size = hf_nL mi := hL.2.1
  have hf : cells + (hf_c fin.2.1 - hf_c g) ≤ R.cells ∧ slots + (hf_s fin.2.1 - hf_s g) ≤ R.slots := by omega
  have S : CallFix p m c (hf_cd mi) (hf_nL mi) s args hf_ts (hf_on (hf_oc mi)) := ⟨hx0, hb, hml, hown, hts⟩
  have hcat : ∀ z : List Value, ((z.map (hf_tv w)).map fun v => v.category).sum = hf_cs z := fun z => by
    rw [List.map_map, show ((fun v : Value => v.category) ∘ hf_tv w) = fun v => v.category from funext fun v => hf_tv_cat v]
    rfl
  have hroom : ∀ (z : List Value), hf_cs z ≤ 8 → 2 * (F0 m pc ls (st.map (hf_tv w))).monitorRoom + ((z.map (hf_tv w)).map fun v => v.category).sum ≤ 8 := fun z hz => by rw [hcat]; simpa using hz
  obtain ⟨ix, hcase⟩ := hf_dcall h
  have pre : ∀ {ks : List Nat}, hf_call mi (hf_ml (hf_oc mi) ix) ks st g = some (.inr (.inl (y, as, rest))) → ∃ (nn kd : Nat) (hs : List (Nat × Nat)), hf_ml (hf_oc mi) ix = some (y, nn, kd) ∧ kd ∈ ks ∧ hf_rmk mi y = true ∧ hf_mlok hs (hf_oc mi) ix y nn kd = true ∧ hf_cs rest ≤ 8 ∧ (hf_la as).length ≤ hf_nL y ∧
      ((kd ∈ [1, 4] ∧ ∃ b, as = .ref b :: (st.take nn).reverse ∧ st.drop nn = .ref b :: rest ∧ nn ≤ st.length ∧ (hf_k g b).1 = 0 ∧ hf_cn (hf_k g b).2 = (hf_y y).cls) ∨ (kd ∈ [2, 5] ∧ ∃ b, as = .ref b :: (st.take nn).reverse ∧ st.drop nn = .ref b :: rest ∧ nn ≤ st.length) ∨ (kd ∉ [1, 4, 2, 5] ∧ as = (st.take nn).reverse ∧ st.drop nn = rest ∧ nn ≤ st.length)) := by
    intro ks hcall
    unfold hf_call at hcall
    split at hcall
    · cases hcall
    · rename_i y1 n1 kd1 hq
      obtain ⟨hs, hok⟩ := hf_ml_ok hq
      split at hcall
      · rename_i hk
        split at hcall
        all_goals (try (split at hcall))
        all_goals (try (split at hcall))
        all_goals (first | (cases hcall; done) | skip)
        all_goals (rename_i hcond; simp only [Option.some.injEq, Sum.inr.injEq, Sum.inl.injEq, Prod.mk.injEq] at hcall; obtain ⟨rfl, rfl, rfl⟩ := hcall)
        · rename_i b rest1 hdrop
          exact ⟨_, _, hs, hq, hk.1, hk.2, hok, hcond.1, hcond.2.2.2.2, Or.inl ⟨by simp, b, rfl, hdrop, hcond.2.1, hcond.2.2.1, hcond.2.2.2.1⟩⟩
        · rename_i b rest1 hdrop
          exact ⟨_, _, hs, hq, hk.1, hk.2, hok, hcond.1, hcond.2.2.2.2, Or.inl ⟨by simp, b, rfl, hdrop, hcond.2.1, hcond.2.2.1, hcond.2.2.2.1⟩⟩
        · rename_i b rest1 hdrop
          exact ⟨_, _, hs, hq, hk.1, hk.2, hok, hcond.1, hcond.2.2, Or.inr (Or.inl ⟨by simp, b, rfl, hdrop, hcond.2.1⟩)⟩
        · rename_i b rest1 hdrop
          exact ⟨_, _, hs, hq, hk.1, hk.2, hok, hcond.1, hcond.2.2, Or.inr (Or.inl ⟨by simp, b, rfl, hdrop, hcond.2.1⟩)⟩
        · rename_i n1 n2 n3 n4
          exact ⟨_, _, hs, hq, hk.1, hk.2, hok, hcond.1, hcond.2.2, Or.inr (Or.inr ⟨by simp; exact ⟨n1, n2, n3, n4⟩, rfl, rfl, hcond.2.1⟩)⟩
      · cases hcall
  have cut : ∀ {y nn kd : Nat} {hs : List (Nat × Nat)}, hf_mlok hs (hf_oc mi) ix y nn kd = true → kd ∈ [0, 1, 2, 3, 4, 5, 6] → y < 184 ∧ y ≠ 183 ∧ hf_npar (hf_y y) = some nn ∧
      (kd = 0 → .methodLink (hf_on (hf_oc mi)) ix (hf_y y) ∈ hf_ts ∧ .static (hf_y y) ∈ hf_ts ∧ hf_hh y = []) ∧
      (kd = 1 → .methodLink (hf_on (hf_oc mi)) ix (hf_y y) ∈ hf_ts ∧ .instanceMethod (hf_y y) ∈ hf_ts ∧ .selects (hf_y y).cls (hf_y y) (hf_y y) ∈ hf_ts ∧ hf_hh y = []) ∧
      (kd = 2 → .methodLink (hf_on (hf_oc mi)) ix (hf_y y) ∈ hf_ts ∧ .instanceMethod (hf_y y) ∈ hf_ts ∧ (hf_y y).name = "<init>" ∧ hf_hh y = [] ∧ hf_rt y = none) ∧
      (kd = 3 → .methodLinkNest (hf_on (hf_oc mi)) ix (hf_y y) "Halofinder" ∈ hf_nw ∧ .static (hf_y y) ∈ hf_ts ∧ hf_hh y = []) ∧
      (kd = 4 → .methodLinkNest (hf_on (hf_oc mi)) ix (hf_y y) "Halofinder" ∈ hf_nw ∧ .instanceMethod (hf_y y) ∈ hf_ts ∧ .selects (hf_y y).cls (hf_y y) (hf_y y) ∈ hf_ts ∧ hf_hh y = []) ∧
      (kd = 5 → .methodLinkNest (hf_on (hf_oc mi)) ix (hf_y y) "Halofinder" ∈ hf_nw ∧ .instanceMethod (hf_y y) ∈ hf_ts ∧ (hf_y y).name = "<init>" ∧ hf_hh y = [] ∧ hf_rt y = none) ∧
      (kd = 6 → .methodLink (hf_on (hf_oc mi)) ix (hf_y y) ∈ hf_ts ∧ .static (hf_y y) ∈ hf_ts ∧ hf_hh y ≠ []) := by
    intro y nn kd hs hok hkd
    unfold hf_mlok at hok
    split at hok
    · simp only [Bool.and_eq_true, decide_eq_true_eq] at hok
      rw [hok.1.2] at hkd
      simp at hkd
    · simp only [Bool.and_eq_true, decide_eq_true_eq] at hok
      obtain ⟨⟨⟨a1, a2⟩, a3⟩, a4⟩ := hok
      refine ⟨a1, a2, a3, ?_, ?_, ?_, ?_, ?_, ?_, ?_⟩
      all_goals (rintro rfl; simp only [Bool.and_eq_true, decide_eq_true_eq] at a4)
      · exact ⟨hf_has_ts a4.1.1, hf_has_ts a4.1.2, a4.2⟩
      · exact ⟨hf_has_ts a4.1.1.1, hf_has_ts a4.1.1.2, hf_has_ts a4.1.2, a4.2⟩
      · exact ⟨hf_has_ts a4.1.1.1.1, hf_has_ts a4.1.1.1.2, a4.1.1.2, a4.1.2, a4.2⟩
      · exact ⟨hf_hasN_nw a4.1.1, hf_has_ts a4.1.2, a4.2⟩
      · exact ⟨hf_hasN_nw a4.1.1.1, hf_has_ts a4.1.1.2, hf_has_ts a4.1.2, a4.2⟩
      · exact ⟨hf_hasN_nw a4.1.1.1.1, hf_has_ts a4.1.1.1.2, a4.1.1.2, a4.1.2, a4.2⟩
      · exact ⟨hf_has_ts a4.1.1, hf_has_ts a4.1.2, a4.2⟩
  have room : hf_rmk mi y = true → (hf_rm y g fin).frames + 1 ≤ R.frames ∧ 8 + (hf_nL y + 11) + (hf_rm y g fin).locals ≤ R.locals := fun q => by
    simp only [hf_rmk, Bool.and_eq_true, decide_eq_true_eq] at q
    have e1 : (hf_rm y g fin).frames = hf_fr y := rfl
    have e2 : (hf_rm y g fin).locals = hf_lo y := rfl
    omega
  have hwC : hf_hh y = [] → hf_ws y = Cond.code (hf_y y) (hf_cd y) (hf_nL y) (hf_rt y) :: hf_ts := fun q => by rw [hf_ws, hf_cw, if_pos q]
  have nws : ∀ q ∈ hf_nw, va_Nw q s := hKW.2.2.2.2.2.2.2.2.1
  rcases hcase with ⟨rfl, hcall⟩ | ⟨rfl, hcall⟩ | ⟨rfl, hcall⟩
  · obtain ⟨nn, kd, hs9, hml9, hkd, hrmk, hok, hcs, has, hcas⟩ := pre hcall
    obtain ⟨y1, y2, y3, d0, -, -, d3, -, -, d6⟩ := cut hok (by simp at hkd ⊢; omega)
    obtain ⟨k1, k2, k3, k4, k5⟩ := hf_mok_of y1
    have hM := hf_met ih hst y1 y2 has hex (w := w)
    rcases hcas with ⟨z, -⟩ | ⟨z, -⟩ | ⟨-, z1, z2, z3⟩
    · simp at hkd z; omega
    · simp at hkd z; omega
    · have hstk : st.map (hf_tv w) = (as.map (hf_tv w)).reverse ++ rest.map (hf_tv w) := by
        rw [z1, List.map_reverse, List.reverse_reverse, ← z2, ← List.map_append, List.take_append_drop]
      have hlen : (as.map (hf_tv w)).length = nn := by rw [z1]; simp; omega
      have hPS : PreS s H (hf_Pc w as g I J) (as.map (hf_tv w)) := ⟨hf_Pc_blind, hPs _ rfl⟩
      have hG := hf_goodIn y1 y2
      simp only [List.mem_cons, List.not_mem_nil, or_false] at hkd
      rcases hkd with rfl | rfl | rfl
      · obtain ⟨e1, e2, e3⟩ := d0 rfl
        exact vx_runS S hM ⟨callB_of nn hts hG (hwC e3) rfl rfl (hts _ k4) (hts _ e1) ⟨k2, k3, y3⟩ (room hrmk), hts _ e2⟩ hPS rfl hlen hgl hstk (hroom _ hcs) hd hf
      · obtain ⟨e1, e2, e3⟩ := d3 rfl
        exact vx_runSN S hM ⟨va_cnB nn hts hG (hwC e3) rfl rfl (nws _ e1) (hts _ k4) ⟨k2, k3, y3⟩ (room hrmk), hts _ e2, trivial⟩ hPS rfl hlen hgl hstk (hroom _ hcs) hd hf
      · obtain ⟨e1, e2, e3⟩ := d6 rfl
        have hw : hf_ws y = Cond.codeWith (hf_y y) (hf_cd y) (hf_nL y) (hf_rt y) (hf_hh y) :: hf_ts := by rw [hf_ws, hf_cw, if_neg e3]
        have hG2 : GoodIn hf_ts (va_wsS (hf_on (hf_oc mi)) ix (hf_y y) (hf_ws y)) := by
          intro q hq
          unfold va_wsS at hq
          rcases List.mem_append.mp hq with hq | hq
          · have : q ∈ hf_ts := by
              simp only [List.mem_cons, List.not_mem_nil, or_false] at hq
              rcases hq with rfl | rfl | rfl
              · exact e1
              · exact e2
              · exact k4
            exact ⟨this, good_of_word (hf_ts_good this)⟩
          · exact hG q hq
        exact vx_runSX S hM (vx_cwSW nn hts hG2 hw rfl rfl ⟨k2, k3, y3⟩ (room hrmk)) hPS rfl hlen hgl hstk (hroom _ hcs) hd hf
  · obtain ⟨nn, kd, hs9, hml9, hkd, hrmk, hok, hcs, has, hcas⟩ := pre hcall
    obtain ⟨y1, y2, y3, -, d1, -, -, d4, -, -⟩ := cut hok (by simp at hkd ⊢; omega)
    obtain ⟨k1, k2, k3, k4, k5⟩ := hf_mok_of y1
    have hM := hf_met ih hst y1 y2 has hex (w := w)
    rcases hcas with ⟨-, b, z1, z2, z3, z4, z5⟩ | ⟨z, -⟩ | ⟨z, -⟩
    · have hstk : st.map (hf_tv w) = (((st.take nn).reverse).map (hf_tv w)).reverse ++ .ref (hf_ad w b) :: rest.map (hf_tv w) := by
        have e9 : (Value.ref (hf_ad w b) :: rest.map (hf_tv w)) = (st.drop nn).map (hf_tv w) := by rw [z2]; rfl
        rw [List.map_reverse, List.reverse_reverse, e9, ← List.map_append, List.take_append_drop]
      have hlen : (((st.take nn).reverse).map (hf_tv w)).length = nn := by simp; omega
      have has2 : as.map (hf_tv w) = .ref (hf_ad w b) :: ((st.take nn).reverse).map (hf_tv w) := by rw [z1]; rfl
      obtain ⟨ci, hci⟩ : ∃ ci, hf_k g b = (0, ci) := ⟨(hf_k g b).2, by rw [← z4]⟩
      have hc11 : ci < 10 := by
        obtain ⟨r9, h9, -⟩ := hH.P _ _ (hf_wl_obj hH hci)
        have h9 : vwCl[ci]? = some r9 := h9
        have := (List.getElem?_eq_some_iff.mp h9).1
        exact this
      have hrecv := va_recv hKW.1 hH.P (hf_cl_get hc11) (hf_wl_obj hH hci)
      have hcls : hf_cn ci = (hf_y y).cls := by rw [← z5, hci]
      dsimp only at hrecv
      rw [hcls] at hrecv
      have hPV : PreV s H (hf_y y).cls (hf_ad w b) (hf_Pc w as g I J) (((st.take nn).reverse).map (hf_tv w)) := ⟨hf_Pc_blind, hrecv, hPs _ (by rw [has2])⟩
      have hG := hf_goodIn y1 y2
      rw [has2]
      simp only [List.mem_cons, List.not_mem_nil, or_false] at hkd
      rcases hkd with rfl | rfl
      · obtain ⟨e1, e2, e3, e4⟩ := d1 rfl
        exact vx_runV S hM ⟨callB_of nn hts hG (hwC e4) rfl rfl (hts _ k4) (hts _ e1) ⟨k2, k3, y3⟩ (room hrmk), hts _ e2, hts _ e3⟩ hPV rfl hlen hgl hstk (hroom _ hcs) hd hf
      · obtain ⟨e1, e2, e3, e4⟩ := d4 rfl
        exact vx_runVN S hM ⟨va_cnB nn hts hG (hwC e4) rfl rfl (nws _ e1) (hts _ k4) ⟨k2, k3, y3⟩ (room hrmk), hts _ e2, hts _ e3⟩ hPV rfl hlen hgl hstk (hroom _ hcs) hd hf
    · simp at hkd z; omega
    · simp at hkd z; omega
  · obtain ⟨nn, kd, hs9, hml9, hkd, hrmk, hok, hcs, has, hcas⟩ := pre hcall
    obtain ⟨y1, y2, y3, -, -, d2, -, -, d5, -⟩ := cut hok (by simp at hkd ⊢; omega)
    obtain ⟨k1, k2, k3, k4, k5⟩ := hf_mok_of y1
    have hM := hf_met ih hst y1 y2 has hex (w := w)
    rcases hcas with ⟨z, -⟩ | ⟨-, b, z1, z2, z3⟩ | ⟨z, -⟩
    · simp at hkd z; omega
    · have hstk : st.map (hf_tv w) = (((st.take nn).reverse).map (hf_tv w)).reverse ++ .ref (hf_ad w b) :: rest.map (hf_tv w) := by
        have e9 : (Value.ref (hf_ad w b) :: rest.map (hf_tv w)) = (st.drop nn).map (hf_tv w) := by rw [z2]; rfl
        rw [List.map_reverse, List.reverse_reverse, e9, ← List.map_append, List.take_append_drop]
      have hlen : (((st.take nn).reverse).map (hf_tv w)).length = nn := by simp; omega
      have has2 : as.map (hf_tv w) = .ref (hf_ad w b) :: ((st.take nn).reverse).map (hf_tv w) := by rw [z1]; rfl
      have hPS : PreS s H (hf_Pc w as g I J) (.ref (hf_ad w b) :: ((st.take nn).reverse).map (hf_tv w)) := ⟨hf_Pc_blind, hPs _ (by rw [has2])⟩
      have hG := hf_goodIn y1 y2
      rw [has2]
      simp only [List.mem_cons, List.not_mem_nil, or_false] at hkd
      rcases hkd with rfl | rfl
      · obtain ⟨e1, e2, e3, e4, e5⟩ := d2 rfl
        have hw : hf_ws y = Cond.code (hf_y y) (hf_cd y) (hf_nL y) none :: hf_ts := by rw [hwC e4, e5]
        exact vx_runI S hM ⟨callB_of nn hts hG hw rfl rfl (hts _ k4) (hts _ e1) ⟨k2, k3, y3⟩ (room hrmk), e3, hts _ e2⟩ hPS rfl hlen hgl hstk (hroom _ hcs) hd hf
      · obtain ⟨e1, e2, e3, e4, e5⟩ := d5 rfl
        have hw : hf_ws y = Cond.code (hf_y y) (hf_cd y) (hf_nL y) none :: hf_ts := by rw [hwC e4, e5]
        exact vx_runIN S hM ⟨va_cnB nn hts hG hw rfl rfl (nws _ e1) (hts _ k4) ⟨k2, k3, y3⟩ (room hrmk), e3, hts _ e2⟩ hPS rfl hlen hgl hstk (hroom _ hcs) hd hf
    · simp at hkd z; omega
end
