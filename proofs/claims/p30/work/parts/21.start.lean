/-! FROM THE LAW'S ENTRY: the world at the start -/
def hf_g0 (n : Nat) : hf_G := (0, true, fun a => if a = 1000001 then (6, n) else if a = 1000002 then (6, 16) else (9, 0), fun _ _ => none, 0, 0)
def hf_i0 (xs : Nat → Int32) : hf_I := fun a j => if a = 1000001 then xs j else if a = 1000002 then hf_wave j else 0
def hf_j0 : hf_J := fun _ _ => 0
def R_law : String := "HalofinderLaw"
def lw_P (b : Addr) (xs : List Int32) (args : Array Value) (s : State) : Prop := args = #[.ref b] ∧ s.IntsAt b xs ∧ xs.length ≤ 260 ∧ (Jvm.Cond.and given_1 narrow_1).before args s = true
def lw_Q (_ : Array Value) (s : State) (o : Outcome) (t : State) : Prop := o = .returned (some (.int 1)) ∧ Framed s o t [] 600104 7301314
def lw_Z (below : List Frame) (a : Array Value) (s : State) : State → Prop := fun t => ∃ o, t.status = .running ∧ Ended t below o ∧ lw_Q a s o t
/-- what holds at the law's entry -/
def lw_At (p : Program) (s : State) (m : MethodId) (meth : Method) (c : Code) (b L : Nat) (xs : Nat → Int32) : Prop :=
  p.tables.exec = Jvm.exec ∧ c.code = code ∧ meth.sig.returnType = ret ∧ c.maxLocals = 7 ∧ s.vm.findClass R_law = some m.cls ∧ (∀ w ∈ lw_tbl, w.before #[Value.ref b] s = true) ∧ va_X b L xs s s.heap ∧ b < s.heap.size ∧ meth.locks = false ∧ (Jvm.Cond.and given_1 narrow_1).before #[Value.ref b] s = true ∧ c.exceptionTable.toList = [] ∧ meth.name = "law"
def hf_fl0 : List Jvm.Cond := flatC (Jvm.Cond.and given_1 narrow_1)
def hf_wt0 : Term := .static "Halofinder$Grains" "WAVE" "[I"
theorem hf_n1 : ((List.range 16).all fun j => decide (Jvm.Cond.eq (.elem hf_wt0 (.int (Int32.ofNat j))) (.int (hf_wave j)) ∈ hf_fl0)) = true := by decide +kernel
theorem hf_n2 : (decide (Jvm.Cond.arrayOf hf_wt0 .int ∈ hf_fl0) && decide (Jvm.Cond.eq (.length hf_wt0) (.int 16) ∈ hf_fl0) && decide (Jvm.Cond.isRef (.static Bundle.tN "UNASSIGNED_STACK" Bundle.steD) ∈ hf_fl0) && decide (Jvm.Cond.isRef (.static Bundle.tN "SUPPRESSED_SENTINEL" Bundle.listD) ∈ hf_fl0)) = true := by decide +kernel
theorem hf_n3 : (hf_tt.all fun q => decide (Jvm.Cond.exactly (.string (hf_on q.1.1) q.1.2.2.1) "java/lang/String" ∈ hf_fl0)) = true := by decide +kernel
theorem hf_n4 : (hf_tt.all fun q => decide (Jvm.Cond.stringRef (hf_on q.1.1) q.1.2.2.1 q.2.2.2 ∈ tables_1)) = true := by decide +kernel
theorem hf_n5 : ([1, 2, 3].all fun x => [1, 2, 3].all fun y => decide (x = y) || decide (Jvm.Cond.not (.castable (hf_en x) (hf_en y)) ∈ hf_fl0)) = true := by decide +kernel
theorem hf_n6 : (decide (Jvm.Cond.laysStatic "Halofinder$Grains" "WAVE" "[I" ∈ tables_1) && decide (Jvm.Cond.laysStatic Bundle.tN "UNASSIGNED_STACK" Bundle.steD ∈ tables_1) && decide (Jvm.Cond.laysStatic Bundle.tN "SUPPRESSED_SENTINEL" Bundle.listD ∈ tables_1) && decide (Jvm.Cond.initialized "Halofinder$Grains" ∈ tables_1) && decide (Jvm.Cond.initialized Bundle.tN ∈ tables_1)) = true := by decide +kernel
theorem hf_n7 : ((List.range 10).all fun k => decide (Jvm.Cond.instantiable (hf_cn k) (hf_nf k) ∈ tables_1)) = true := by decide +kernel
theorem hf_n8 : vwCl.length = 10 := rfl
theorem hf_prim {s : State} {args : Array Value} {ty : FieldType} (hp : ty = .int ∨ ty = .long ∨ ty = .byte) (h : (Cond.arrayClass ty).before args s = true) : ∃ cA : ClassId, ArrOfT s cA ty ∧ va_RA s cA ty := by
  obtain ⟨cA, kA, comp, h1, h2, h3⟩ := Cond.arrayClass_spec h
  refine ⟨cA, fun N z => ⟨(fun k hk9 => by rcases hp with rfl | rfl | rfl <;> cases hk9), kA, h2, comp, h3⟩, ?_⟩
  rcases hp with rfl | rfl | rfl <;> exact h1
theorem hf_objs {s : State} {args : Array Value} {C : String} (h : (Cond.arrayOver (.object C)).before args s = true) : ∃ cA : ClassId, ArrOfT s cA (.object C) ∧ va_RA s cA (.object C) := by
  obtain ⟨comp, cA, kA, h1, h2, h3, h4, h5⟩ := Cond.arrayOver_spec h
  exact ⟨cA, fun N z => ⟨(fun k h => by cases h), kA, h3, comp, h4⟩, kA, comp, h3, h4, h1, h5⟩
theorem hf_start {p : Program} {e : Env} {s : State} {m : MethodId} {below : List Frame} {meth : Method} {c : Code} (l : Launch) (hflags : l.flags = flags0) {b L : Nat} {xs : Nat → Int32} (hL : L ≤ 260) (C0 : lw_At p s m meth c b L xs)
    (hp : ∃ (n : Nat) (g1 : hf_G) (I1 : hf_I) (J1 : hf_J), hf_ex n 183 0 (hf_ent 7 [.ref 1000001]) [] (hf_g0 L) (hf_i0 xs) hf_j0 = some (.inl (some (.int 1)), g1, I1, J1) ∧ hf_c g1 ≤ 600104 ∧ hf_s g1 ≤ 7301314) :
    W p l e room_1 s m #[Value.ref b] below meth c s.heap [] 0 0 (lw_Z below #[Value.ref b] s) (entryFrame m ([Value.ref b] : List Value).toArray 7) := by
  obtain ⟨hx, hb, hr, hml, hown, hts, hX, hbl, hlocks, hgv, htab, hnm⟩ := C0
  obtain ⟨n, g1, I1, J1, hex, hcells, hslots⟩ := hp
  have hnar := flat_of_before _ hgv
  have tb : ∀ q ∈ tables_1, q.before #[Value.ref b] s = true := fun q hq => hts q (List.mem_append_right _ hq)
  have hn2 := hf_n2
  have hn6 := hf_n6
  simp only [Bool.and_eq_true, decide_eq_true_eq] at hn2 hn6
  obtain ⟨⟨⟨n21, n22⟩, n23⟩, n24⟩ := hn2
  obtain ⟨⟨⟨⟨n61, n62⟩, n63⟩, n64⟩, n65⟩ := hn6
  have hA : ∀ a : Nat, a < s.heap.size → ¬ (s.heap.size ≤ a) := fun a h => Nat.not_le.mpr h
  -- the classes
  have hcls : ∀ k : Nat, k < 10 → ∃ (cC : ClassId) (iS : Nat → Nat), u_Kn s (hf_cn k) (hf_ct k) (hf_nf k) cC iS := fun k hk => by
    have h7 := List.all_eq_true.mp hf_n7 k (List.mem_range.mpr hk)
    simp only [decide_eq_true_eq] at h7
    exact u_known (ws := hf_ts) (fun q hq => hts q (List.mem_filter.mp hq).1) (hf_cok_of hk).2.2.1 (tb _ h7)
  have hD : ∃ D : va_G, ∀ (k : Nat) (q : vw_C), vwCl[k]? = some q → u_Kn s q.1 q.2.1 q.2.2 (D.1 k) (D.2 k) := by
    have : ∀ k : Nat, ∃ z : ClassId × (Nat → Nat), k < 10 → u_Kn s (hf_cn k) (hf_ct k) (hf_nf k) z.1 z.2 := fun k => by
      by_cases hk : k < 10
      · obtain ⟨cC, iS, h⟩ := hcls k hk
        exact ⟨(cC, iS), fun _ => h⟩
      · exact ⟨(0, fun _ => 0), fun q => absurd q hk⟩
    refine ⟨(fun k => (Classical.choose (this k)).1, fun k => (Classical.choose (this k)).2), fun k q hq => ?_⟩
    have hk : k < 10 := (List.getElem?_eq_some_iff.mp hq).1
    rw [hf_cl_get hk] at hq
    cases hq
    exact Classical.choose_spec (this k) hk
  obtain ⟨D, hD⟩ := hD
  obtain ⟨c2, q2⟩ := hf_prim (Or.inl rfl) (hts _ (List.mem_filter.mp (hf_has_ts hf_ar2)).1)
  obtain ⟨c3, q3⟩ := hf_prim (Or.inr (Or.inl rfl)) (hts _ (List.mem_filter.mp (hf_has_ts hf_ar3)).1)
  obtain ⟨c4, q4⟩ := hf_prim (Or.inr (Or.inr rfl)) (hts _ (List.mem_filter.mp (hf_has_ts hf_ar4)).1)
  have hover := hts _ (hf_ch_mem hf_ar5)
  obtain ⟨c5, q5⟩ := hf_objs hover
  -- the waves
  obtain ⟨t, ht1, ht2⟩ := va_Tof (args := #[Value.ref b]) (s := s) (tm := hf_wt0) (ty := .int) (N := 16) (f := fun j => .int (hf_wave j)) (A := fun q => s.heap.size ≤ q) (by decide) (hnar _ n21) (Cond.eq_int (hnar _ n22) rfl) (fun j hj => by
    have := List.all_eq_true.mp hf_n1 j (List.mem_range.mpr hj)
    simp only [decide_eq_true_eq] at this
    exact Cond.eq_int (hnar _ this) rfl) hA
  have hZ := va_Zof (A := fun q => s.heap.size ≤ q) (tb _ n61) (tb _ n64) ht1 hA
  obtain ⟨w, hw⟩ : ∃ w : hf_W, w = (D, (fun k => if k = 2 then c2 else if k = 3 then c3 else if k = 4 then c4 else c5), s.heap.size, b, t, xs, L) := ⟨_, rfl⟩
  have eA : hf_A w = fun q => s.heap.size ≤ q := by rw [hw]; rfl
  have eZ : hf_Z w = s.heap.size := by rw [hw]; rfl
  have hT2 : va_T .int b L (fun j => .int (xs j)) (fun q => s.heap.size ≤ q) s s.heap := by
    obtain ⟨scr, x1, x2, x3, x4, x5⟩ := hX
    exact ⟨scr, x1, x2, x3, Nat.le_of_eq x4.symm, by rw [x4], x5, hA b hbl⟩
  have hKW : hf_KW w s s.heap := by
    unfold hf_KW
    rw [eA, eZ]
    refine ⟨⟨by rw [hw]; exact hD, fun k q hk => ?_⟩, by rw [hw]; exact hZ, by rw [hw]; exact ht2, by rw [hw]; exact hT2, by rw [hw]; show L < _; omega, vx_Zqof (tb _ n62) (tb _ n65) (hnar _ n23) hA, vx_Zqof (tb _ n63) (tb _ n65) (hnar _ n24) hA, fun q hq => ?_, fun q hq => ?_, fun x y x1 x2 y1 y2 hxy => ?_, va_AO.of hover, Nat.le_refl _⟩
    · rw [hw] at hk
      match k, hk with
      | 0, hk => cases hk; exact q2
      | 1, hk => cases hk; exact q3
      | 2, hk => cases hk; exact q4
      | 3, hk => cases hk; exact q5
      | k + 4, hk => simp [hf_tys] at hk
    · have h3 := List.all_eq_true.mp hf_n3 q hq
      have h4 := List.all_eq_true.mp hf_n4 q hq
      simp only [decide_eq_true_eq] at h3 h4
      obtain ⟨a, cc, cell, k, he, -⟩ := Cond.exactly_spec (hnar _ h3)
      exact ⟨a, vk_R.of (tb _ h4) he⟩
    · obtain ⟨z1, z2⟩ := List.mem_filter.mp hq
      exact va_Nw.of (hf_isN_tab z2) (hts _ z1)
    · have hx9 : x ∈ [1, 2, 3] := by simp; omega
      have hy9 : y ∈ [1, 2, 3] := by simp; omega
      have := List.all_eq_true.mp (List.all_eq_true.mp hf_n5 x hx9) y hy9
      simp only [Bool.or_eq_true, decide_eq_true_eq] at this
      exact va_Nc.of (hnar _ (this.resolve_left hxy))
  have hC : hf_C w 183 p l room_1 s m #[Value.ref b] meth c :=
    ⟨hx, hb, hr, hml, hown, fun q hq => hts q (List.mem_filter.mp hq).1, hlocks, htab, hnm, Nat.le_of_ble_eq_true rfl, Nat.le_of_ble_eq_true rfl, hKW, by rw [Launch.stackTraces, hflags]; decide +kernel⟩
  have rc : room_1.cells = 600104 := rfl
  have rs : room_1.slots = 7301314 := rfl
  have hH : hf_HR w (hf_g0 L) (hf_i0 xs) hf_j0 s.heap := by
    refine ⟨⟨Nat.zero_le _, by rw [eZ]; exact Nat.le_refl _⟩, fun a ha => ?_, fun a ha => ?_, by rw [hw]; rfl, rfl, fun j => by rw [hw]; rfl, fun j => rfl, fun k q hq => by simp [hf_wl, hf_n, hf_g0] at hq⟩
    · exfalso
      simp only [hf_g0, hf_k] at ha
      split at ha
      · simp at ha
      · split at ha <;> simp at ha
    · simp only [hf_g0, hf_k] at ha
      split at ha
      · exact Or.inl (by assumption)
      · split at ha
        · exact Or.inr (by assumption)
        · simp at ha
  have main := hf_ok n w 183 p l e room_1 s m #[Value.ref b] below meth c 0 0 0 _ [] _ _ _ _ hC hex (by rw [rc]; exact hcells) (by rw [rs]; exact hslots) (Nat.le_refl _) (Nat.le_refl _)
  have ead : [Value.ref b] = [Value.ref 1000001].map (hf_tv w) := by rw [hw]; rfl
  have k := main s.heap [] _ 0 0 hH va_S.rf (hf_entry w (as := [.ref 1000001]) (n := 7) (by decide)) rfl rfl (fun _ => by rw [eZ]; exact Nat.le_refl _)
  have k2 : W p l e room_1 s m #[Value.ref b] below meth c s.heap [] 0 0 (vx_MQ below (hf_Qc w (.inl (some (.int 1)), g1, I1, J1)) (hf_XC w (.inl (some (.int 1)), g1, I1, J1)) #[Value.ref b] s (hf_c g1 - 0) (hf_s g1 - 0) (hf_A w)) (entryFrame m ([Value.ref b] : List Value).toArray 7) := by
    rw [lg_entry_eq]
    have k3 := k
    rw [← ead] at k3
    exact k3
  intro T hT X
  obtain ⟨t9, a1, o, b1, b2, b3⟩ := k2 T hT X
  refine ⟨t9, a1, o, b1, b2, ?_⟩
  rcases b3 with ⟨⟨v, v1, v2, -, -⟩, L9, hfe, hL9⟩ | ⟨q, -, E, ce, L9, ⟨x, hx, -⟩, -⟩
  · cases v1
    subst v2
    refine ⟨rfl, ?_⟩
    obtain ⟨f1, f2, f3⟩ := hfe
    refine ⟨f1, f2, ?_⟩
    have hcz : hf_c g1 - 0 ≤ 600104 := by omega
    have hsz : hf_s g1 - 0 ≤ 7301314 := by omega
    exact f3.weaken (fun y hy hlt => absurd hlt (Nat.not_lt.mpr (by have h9 := hL9 y hy; rw [eA] at h9; exact h9))) hcz hsz
  · cases hx
