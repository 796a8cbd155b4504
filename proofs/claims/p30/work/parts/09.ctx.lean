/-! THE MACHINE AT WORK IN A METHOD, over a pure state -/
def hf_ts : List Cond := lw_tbl.filter goodWord
def hf_isN (c : Jvm.Cond) : Bool := match c with
  | .fieldLinkNest _ _ _ _ _ _ => true
  | .methodLinkNest _ _ _ _ => true
  | .castable _ _ => true
  | .declares _ => true
  | _ => false
def hf_nw : List Jvm.Cond := lw_tbl.filter hf_isN
def hf_cw (y : Nat) : Jvm.Cond := if hf_hh y = [] then .code (hf_y y) (hf_cd y) (hf_nL y) (hf_rt y) else .codeWith (hf_y y) (hf_cd y) (hf_nL y) (hf_rt y) (hf_hh y)
def hf_ws (y : Nat) : List Jvm.Cond := hf_cw y :: hf_ts
def hf_tys (w : hf_W) : List (ClassId × FieldType) := [(hf_cA w 2, .int), (hf_cA w 3, .long), (hf_cA w 4, .byte), (hf_cA w 5, .object "Halofinder$Picture")]
/-- what is given of the world around: classes, what lies elsewhere, texts, links among nest mates -/
def hf_KW (w : hf_W) (U : State) (H : Heap) : Prop :=
  va_K (hf_D w) vwCl (hf_tys w) U ∧ va_Z "Halofinder$Grains" "WAVE" "[I" (.ref (hf_wt w)) (hf_A w) U H ∧ va_T .int (hf_wt w) 16 (fun j => .int (hf_wave j)) (hf_A w) U H ∧
  va_T .int (hf_sb w) (hf_xl w) (fun j => .int (hf_xs w j)) (hf_A w) U H ∧ hf_xl w < 2147483648 ∧
  vx_Zq Bundle.tN "UNASSIGNED_STACK" Bundle.steD (hf_A w) U H ∧ vx_Zq Bundle.tN "SUPPRESSED_SENTINEL" Bundle.listD (hf_A w) U H ∧
  (∀ q ∈ hf_tt, ∃ sa, vk_R (hf_on q.1.1) q.1.2.2.1 q.2.2.2 sa U) ∧ (∀ q ∈ hf_nw, va_Nw q U) ∧ (∀ x y : Nat, 1 ≤ x → x ≤ 3 → 1 ≤ y → y ≤ 3 → x ≠ y → va_Nc (hf_en x) (hf_en y) U) ∧ va_AO "Halofinder$Picture" U ∧ hf_Z w ≤ H.size
theorem hf_Nc_moved {C T : String} {u U : State} (hvm : u.vm.Alike U.vm) (h : va_Nc C T u) : va_Nc C T U := by
  obtain ⟨c, t, h1, h2, h3⟩ := h
  exact ⟨c, t, by rw [hvm.findClass]; exact h1, by rw [hvm.findClass]; exact h2, by rw [hvm.assignable]; exact h3⟩
theorem hf_nw_warm {q : Jvm.Cond} (hq : hf_isN q = true) {s U : State} (hW : s.WarmedH U.vm) (h : va_Nw q s) : va_Nw q U := by
  cases q <;> first | (cases hq; done) | exact va_Nw.warmF hW h | exact va_Nw.warmM hW h | exact va_Nw.warmC hW h | exact va_Nw.warmD hW h
theorem hf_isN_tab {q : Jvm.Cond} (hq : hf_isN q = true) : q.onTables = true := by
  cases q <;> first | (cases hq; done) | rfl
theorem hf_KW.go {w : hf_W} {s U : State} {H H1 : Heap} (h : hf_KW w s H) (hW : s.WarmedH U.vm) (hz : H.size ≤ H1.size) (hq : ∀ a : Nat, a < H.size → ¬ hf_A w a → H1[a]? = H[a]?) : hf_KW w U H1 := by
  obtain ⟨h1, h2, h3, h4, h5, h6, h7, h8, h9, h10, h12, h11⟩ := h
  have hv := hW.alike
  exact ⟨va_K.moved hv h1, va_Z.moved hv (va_Z.kept h2 hq), va_T.moved hv (va_T.kept h3 hq), va_T.moved hv (va_T.kept h4 hq), h5, vx_Zq.moved hv (vx_Zq.kept h6 hq), vx_Zq.moved hv (vx_Zq.kept h7 hq),
    fun q hq => by obtain ⟨sa, hs⟩ := h8 q hq; exact ⟨sa, vk_R.warm hW hs⟩, fun q hq => hf_nw_warm (List.mem_filter.mp hq).2 hW (h9 q hq), fun x y a b c d e => hf_Nc_moved hv (h10 x y a b c d e), va_AO.moved hv h12, Nat.le_trans h11 hz⟩
/-- the locals -/
def hf_LR (w : hf_W) (ls : Array Slot) (nL : Nat) (L : hf_Lo) : Prop := L.length = nL ∧ ls.size = nL ∧ lv_wf ls ∧ ∀ (i : Nat) (v : Value), L[i]? = some (some v) → ls[i]? = some (.val (hf_tv w v))
section
variable (w : hf_W) (mi : Nat) (p : Program) (l : Launch) (e : Env) (R : Room) (s : State) (m : MethodId) (args : Array Value) (below : List Frame) (meth : Method) (c : Code)
def hf_C : Prop :=
  p.tables.exec = Jvm.exec ∧ c.code = hf_cd mi ∧ meth.sig.returnType = hf_rt mi ∧ c.maxLocals = hf_nL mi ∧ s.vm.findClass (hf_on (hf_oc mi)) = some m.cls ∧ (∀ q ∈ hf_ts, q.before args s = true) ∧ meth.locks = false ∧
  c.exceptionTable.toList = tableOf (hf_hh mi) ∧ meth.name = (hf_y mi).name ∧ hf_fr mi ≤ R.frames ∧ hf_lo mi ≤ R.locals ∧ hf_KW w s s.heap ∧ l.stackTraces = false
def hf_at (c0 s0 : Nat) (Q : State → Prop) (pc : Nat) (L : hf_Lo) (st : List Value) (g : hf_G) (I : hf_I) (J : hf_J) : Prop :=
  ∀ (H : Heap) (locs : List Loc) (ls : Array Slot) (cells slots : Nat), hf_HR w g I J H → va_S (hf_A w) s.heap H locs → hf_LR w ls (hf_nL mi) L → cells + c0 = hf_c g → slots + s0 = hf_s g → (hf_e g = true → s.heap.size + cells ≤ hf_Z w + hf_n g) →
    W p l e R s m args below meth c H locs cells slots Q (F0 m pc ls (st.map (hf_tv w)))
end
section
variable {w : hf_W} {mi : Nat} {p : Program} {l : Launch} {e : Env} {R : Room} {s : State} {m : MethodId} {args : Array Value} {below : List Frame} {meth : Method} {c : Code}
variable {c0 s0 : Nat} {Q : State → Prop} {pc pc1 : Nat} {L L1 : hf_Lo} {st st1 r : List Value} {g g1 : hf_G} {I I1 : hf_I} {J J1 : hf_J}
theorem hf_cast (h : hf_nx pc L st g I J = hf_nx pc1 L1 st1 g1 I1 J1) (k : hf_at w mi p l e R s m args below meth c c0 s0 Q pc1 L1 st1 g1 I1 J1) : hf_at w mi p l e R s m args below meth c c0 s0 Q pc L st g I J := by
  simp only [hf_nx, Option.some.injEq, Sum.inl.injEq, Prod.mk.injEq] at h
  obtain ⟨rfl, rfl, rfl, rfl, rfl, rfl⟩ := h
  exact k
theorem hf_nn (h : (none : Option hf_O) = hf_nx pc L st g I J) : False := by
  unfold hf_nx at h
  cases h
theorem hf_gl_of {v : Value} {ls : Array Slot} {nL i : Nat} (hL : hf_LR w ls nL L) (h : hf_gl L i = some v) : ls[i]? = some (.val (hf_tv w v)) := by
  refine hL.2.2.2 i v ?_
  unfold hf_gl at h
  split at h
  · cases h; assumption
  · cases h
/-- the listed locals -/
def hf_en2 (w : hf_W) : Nat → hf_Lo → List (Nat × Value)
  | _, [] => []
  | i, none :: l => hf_en2 w (i + 1) l
  | i, some v :: l => (i, hf_tv w v) :: hf_en2 w (i + 1) l
theorem hf_en2_mem {i : Nat} {L : hf_Lo} {q : Nat × Value} : q ∈ hf_en2 w i L ↔ ∃ (j : Nat) (v : Value), L[j]? = some (some v) ∧ q = (i + j, hf_tv w v) := by
  induction L generalizing i with
  | nil => simp [hf_en2]
  | cons a L ih =>
    cases a with
    | none =>
      rw [hf_en2, ih]
      constructor
      · rintro ⟨j, v, h, rfl⟩
        exact ⟨j + 1, v, by simpa using h, by simp; omega⟩
      · rintro ⟨j, v, h, rfl⟩
        cases j with
        | zero => simp at h
        | succ j => exact ⟨j, v, by simpa using h, by simp; omega⟩
    | some x =>
      rw [hf_en2, List.mem_cons, ih]
      constructor
      · rintro (rfl | ⟨j, v, h, rfl⟩)
        · exact ⟨0, x, by simp, by simp⟩
        · exact ⟨j + 1, v, by simpa using h, by simp; omega⟩
      · rintro ⟨j, v, h, rfl⟩
        cases j with
        | zero => simp at h; subst h; exact Or.inl (by simp)
        | succ j => exact Or.inr ⟨j, v, by simpa using h, by simp; omega⟩
theorem hf_LR.has {ls : Array Slot} {nL : Nat} (h : hf_LR w ls nL L) : lv_has ls nL (hf_en2 w 0 L) := by
  refine ⟨h.2.1, h.2.2.1, fun q hq => ?_⟩
  obtain ⟨j, v, hj, rfl⟩ := hf_en2_mem.mp hq
  have := h.2.2.2 j v hj
  simpa using this
theorem hf_tv_cat (v : Value) : (hf_tv w v).category = v.category := by cases v <;> rfl
theorem hf_iv_some {v : Option Value} {x : Value} (h : hf_iv v = some x) : v = some x ∧ ¬ x.category = 2 := by
  unfold hf_iv at h
  split at h
  · cases h
  · cases h
  · subst h
    refine ⟨rfl, ?_⟩
    rename_i n1 n2
    cases x <;> simp_all [Value.category]
theorem hf_s1_len : ∀ (L : hf_Lo) (i : Nat) (v : Value), (hf_s1 L i v).length = L.length
  | [], _, _ => rfl
  | _ :: l, 0, v => rfl
  | a :: l, 1, v => by simp [hf_s1, hf_s1_len l 0 v]
  | a :: l, n + 2, v => by simp [hf_s1, hf_s1_len l (n + 1) v]
theorem hf_s1_get : ∀ (L : hf_Lo) (i : Nat) (v : Value) (j : Nat) (x : Value), (hf_s1 L i v)[j]? = some (some x) → (j = i ∧ x = v) ∨ (j ≠ i ∧ L[j]? = some (some x) ∧ ¬ (j + 1 = i ∧ x.category = 2))
  | [], _, _, j, x, h => by simp [hf_s1] at h
  | _ :: l, 0, v, 0, x, h => by simp [hf_s1] at h; exact Or.inl ⟨rfl, h.symm⟩
  | _ :: l, 0, v, j + 1, x, h => by simp [hf_s1] at h; exact Or.inr ⟨by omega, by simpa using h, by omega⟩
  | a :: l, 1, v, 0, x, h => by
    simp [hf_s1] at h
    obtain ⟨h1, h2⟩ := hf_iv_some h
    exact Or.inr ⟨by omega, by simp [h1], fun q => h2 q.2⟩
  | a :: l, 1, v, j + 1, x, h => by
    simp [hf_s1] at h
    rcases hf_s1_get l 0 v j x h with ⟨h1, h2⟩ | ⟨h1, h2, h3⟩
    · exact Or.inl ⟨by omega, h2⟩
    · exact Or.inr ⟨by omega, by simpa using h2, by omega⟩
  | a :: l, n + 2, v, 0, x, h => by simp [hf_s1] at h; exact Or.inr ⟨by omega, by simp [h], by omega⟩
  | a :: l, n + 2, v, j + 1, x, h => by
    simp [hf_s1] at h
    rcases hf_s1_get l (n + 1) v j x h with ⟨h1, h2⟩ | ⟨h1, h2, h3⟩
    · exact Or.inl ⟨by omega, h2⟩
    · exact Or.inr ⟨by omega, by simpa using h2, fun q => h3 ⟨by omega, q.2⟩⟩
theorem hf_s2_len : ∀ (L : hf_Lo) (i : Nat) (v : Value), i + 1 < L.length → (hf_s2 L i v).length = L.length
  | [], _, _, h => by simp at h
  | [_], 0, _, h => by simp at h
  | _ :: _ :: l, 0, v, _ => rfl
  | a :: l, 1, v, h => by
    have : (hf_s2 (a :: l) 1 v) = hf_iv a :: hf_s2 l 0 v := by cases l <;> rfl
    rw [this]; simp [hf_s2_len l 0 v (by simp at h; omega)]
  | a :: l, n + 2, v, h => by
    have : (hf_s2 (a :: l) (n + 2) v) = a :: hf_s2 l (n + 1) v := by cases l <;> rfl
    rw [this]; simp [hf_s2_len l (n + 1) v (by simp at h; omega)]
theorem hf_s2_get : ∀ (L : hf_Lo) (i : Nat) (v : Value) (j : Nat) (x : Value), (hf_s2 L i v)[j]? = some (some x) → (j = i ∧ x = v) ∨ (j ≠ i ∧ j ≠ i + 1 ∧ L[j]? = some (some x) ∧ ¬ (j + 1 = i ∧ x.category = 2))
  | [], _, _, j, x, h => by simp [hf_s2] at h
  | [_], 0, _, j, x, h => by simp [hf_s2] at h
  | _ :: _ :: l, 0, v, 0, x, h => by simp [hf_s2] at h; exact Or.inl ⟨rfl, h.symm⟩
  | _ :: _ :: l, 0, v, 1, x, h => by simp [hf_s2] at h
  | _ :: _ :: l, 0, v, j + 2, x, h => by simp [hf_s2] at h; exact Or.inr ⟨by omega, by omega, by simpa using h, by omega⟩
  | a :: l, 1, v, 0, x, h => by
    have q : (hf_s2 (a :: l) 1 v) = hf_iv a :: hf_s2 l 0 v := by cases l <;> rfl
    rw [q] at h
    simp at h
    obtain ⟨h1, h2⟩ := hf_iv_some h
    exact Or.inr ⟨by omega, by omega, by simp [h1], fun q => h2 q.2⟩
  | a :: l, 1, v, j + 1, x, h => by
    have q : (hf_s2 (a :: l) 1 v) = hf_iv a :: hf_s2 l 0 v := by cases l <;> rfl
    rw [q] at h
    simp at h
    rcases hf_s2_get l 0 v j x h with ⟨h1, h2⟩ | ⟨h1, h1', h2, h3⟩
    · exact Or.inl ⟨by omega, h2⟩
    · exact Or.inr ⟨by omega, by omega, by simpa using h2, by omega⟩
  | a :: l, n + 2, v, 0, x, h => by
    have q : (hf_s2 (a :: l) (n + 2) v) = a :: hf_s2 l (n + 1) v := by cases l <;> rfl
    rw [q] at h
    simp at h; exact Or.inr ⟨by omega, by omega, by simp [h], by omega⟩
  | a :: l, n + 2, v, j + 1, x, h => by
    have q : (hf_s2 (a :: l) (n + 2) v) = a :: hf_s2 l (n + 1) v := by cases l <;> rfl
    rw [q] at h
    simp at h
    rcases hf_s2_get l (n + 1) v j x h with ⟨h1, h2⟩ | ⟨h1, h1', h2, h3⟩
    · exact Or.inl ⟨by omega, h2⟩
    · exact Or.inr ⟨by omega, by omega, by simpa using h2, fun q => h3 ⟨by omega, q.2⟩⟩
theorem hf_LR.s1 {ls ls1 : Array Slot} {nL i : Nat} {v : Value} (h : hf_LR w ls nL L) (h1 : lv_has ls1 nL ((i, hf_tv w v) :: (hf_en2 w 0 L).filter (fun q => !(q.1 == i) && !(q.1 + 1 == i && q.2.category == 2)))) : hf_LR w ls1 nL (hf_s1 L i v) := by
  refine ⟨by rw [hf_s1_len]; exact h.1, h1.1, h1.2.1, fun j x hx => ?_⟩
  rcases hf_s1_get L i v j x hx with ⟨rfl, rfl⟩ | ⟨a, b, d⟩
  · exact h1.2.2 _ List.mem_cons_self
  · refine h1.2.2 (j, hf_tv w x) (List.mem_cons_of_mem _ (List.mem_filter.mpr ⟨hf_en2_mem.mpr ⟨j, x, b, by simp⟩, ?_⟩))
    simp only [hf_tv_cat]
    by_cases c1 : j + 1 = i
    · have : ¬ x.category = 2 := fun q => d ⟨c1, q⟩
      simp [a, this]
    · simp [a, c1]
theorem hf_LR.s2 {ls ls1 : Array Slot} {nL i : Nat} {v : Value} (h : hf_LR w ls nL L) (hi : i + 1 < L.length) (h1 : lv_has ls1 nL ((i, hf_tv w v) :: (hf_en2 w 0 L).filter (fun q => !(q.1 == i) && (!(q.1 == i + 1) && !(q.1 + 1 == i && q.2.category == 2))))) : hf_LR w ls1 nL (hf_s2 L i v) := by
  refine ⟨by rw [hf_s2_len _ _ _ hi]; exact h.1, h1.1, h1.2.1, fun j x hx => ?_⟩
  rcases hf_s2_get L i v j x hx with ⟨rfl, rfl⟩ | ⟨a, a', b, d⟩
  · exact h1.2.2 _ List.mem_cons_self
  · refine h1.2.2 (j, hf_tv w x) (List.mem_cons_of_mem _ (List.mem_filter.mpr ⟨hf_en2_mem.mpr ⟨j, x, b, by simp⟩, ?_⟩))
    simp only [hf_tv_cat]
    by_cases c1 : j + 1 = i
    · have : ¬ x.category = 2 := fun q => d ⟨c1, q⟩
      simp [a, a', this]
    · simp [a, a', c1]
end
