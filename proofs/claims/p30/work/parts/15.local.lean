theorem hf_ml_ok {o ix : Nat} {q : Nat × Nat × Nat} (h : hf_ml o ix = some q) : ∃ a, hf_mlok a o ix q.1 q.2.1 q.2.2 = true := by
  have fin : hf_mlokO o = true → ∃ a, hf_mlok a o ix q.1 q.2.1 q.2.2 = true := fun h1 => by
    simp only [hf_mlokO, Bool.and_eq_true, decide_eq_true_eq] at h1
    obtain ⟨a, ha⟩ := hf_look h1.1 h
    exact ⟨a, List.all_eq_true.mp h1.2 _ ha⟩
  match o, h, fin with
  | 0, h, fin => exact fin hf_ml_0
  | 1, h, fin => exact fin hf_ml_1
  | 2, h, fin => exact fin hf_ml_2
  | 3, h, fin => exact fin hf_ml_3
  | 4, h, fin => exact fin hf_ml_4
  | 5, h, fin => exact fin hf_ml_5
  | 6, h, fin => exact fin hf_ml_6
  | 7, h, fin => exact fin hf_ml_7
  | 8, h, fin => exact fin hf_ml_8
  | 9, h, fin => exact fin hf_ml_9
  | 10, h, fin => exact fin hf_ml_10
  | 11, h, fin => exact fin hf_ml_11
  | 12, h, fin => exact fin hf_ml_12
  | 13, h, fin => exact fin hf_ml_13
  | 14, h, fin => exact fin hf_ml_14
  | 15, h, fin => exact fin hf_ml_15
  | n + 16, h, fin =>
    have e : hf_mlT (n + 16) = [] := rfl
    rw [hf_ml, e] at h
    simp at h
theorem hf_oi_link {o ix : Nat} (h : hf_ml o ix = some (999, 0, 9)) : .methodLink (hf_on o) ix Lib.objectInit ∈ hf_ts := by
  obtain ⟨a, ha⟩ := hf_ml_ok h
  simp [hf_mlok] at ha
  exact hf_has_ts ha
/-! ONE STEP: whatever instruction -/
section
variable {w : hf_W} {mi : Nat} {p : Program} {l : Launch} {e : Env} {R : Room} {s : State} {m : MethodId} {args : Array Value} {below : List Frame} {meth : Method} {c : Code}
variable {c0 s0 : Nat} {Q : State → Prop} {pc pc1 : Nat} {L L1 : hf_Lo} {st st1 r : List Value} {g g1 : hf_G} {I I1 : hf_I} {J J1 : hf_J}
theorem hf_gone {o : hf_Q} (h : (none : Option hf_O) = some (.inl o)) : False := by cases h
theorem hf_ncall {q : Option (Nat × Nat × Nat)} {ks : List Nat} {st : List Value} (h : hf_call mi q ks st g = hf_nx pc1 L1 st1 g1 I1 J1) : False := by
  unfold hf_call hf_nx at h
  repeat' (split at h)
  all_goals (cases h)
theorem hf_nret0 (h : hf_ret0 mi st g I J = hf_nx pc1 L1 st1 g1 I1 J1) : False := by
  unfold hf_ret0 hf_nx at h
  repeat' (split at h)
  all_goals (cases h)
theorem hf_nret1 (h : hf_ret1 mi st g I J = hf_nx pc1 L1 st1 g1 I1 J1) : False := by
  unfold hf_ret1 hf_nx at h
  repeat' (split at h)
  all_goals (cases h)
theorem hf_nret2 (h : hf_ret2 mi st g I J = hf_nx pc1 L1 st1 g1 I1 J1) : False := by
  unfold hf_ret2 hf_nx at h
  repeat' (split at h)
  all_goals (cases h)
theorem hf_nret3 (h : hf_ret3 mi st g I J = hf_nx pc1 L1 st1 g1 I1 J1) : False := by
  unfold hf_ret3 hf_nx at h
  repeat' (split at h)
  all_goals (cases h)
/-- a throw is no step within the method -/
theorem hf_nthrow {ci ix : Nat} (hcl : hf_cl (hf_oc mi) ix = some ci) (hci : ¬ ci < 100) (h : hf_ne mi ix pc L st g I J = hf_nx pc1 L1 st1 g1 I1 J1) : False := by
  unfold hf_ne hf_nx at h
  rw [hcl] at h
  dsimp only at h
  rw [if_neg hci] at h
  repeat' (split at h)
  all_goals (cases h)
theorem hf_go_k {off : Int} (h : hf_go pc off L st g I J = hf_nx pc1 L1 st1 g1 I1 J1) (k : hf_at w mi p l e R s m args below meth c c0 s0 Q pc1 L1 st1 g1 I1 J1) : 0 ≤ (pc : Int) + off ∧ hf_at w mi p l e R s m args below meth c c0 s0 Q (hf_tg pc off) L st g I J := by
  unfold hf_go at h
  split at h
  · rename_i h0
    exact ⟨h0, hf_cast h k⟩
  · exact (hf_nn h).elim
theorem hf_br_k {x : Bool} {off : Int} (h : hf_br x pc off L st g I J = hf_nx pc1 L1 st1 g1 I1 J1) (k : hf_at w mi p l e R s m args below meth c c0 s0 Q pc1 L1 st1 g1 I1 J1) : 0 ≤ (pc : Int) + off ∧ (x = true → hf_at w mi p l e R s m args below meth c c0 s0 Q (hf_tg pc off) L st g I J) ∧ (x = false → hf_at w mi p l e R s m args below meth c c0 s0 Q (pc + 3) L st g I J) := by
  unfold hf_br at h
  split at h
  · rename_i h0
    refine ⟨h0, fun hx => ?_, fun hx => ?_⟩
    · rw [if_pos hx] at h
      exact hf_cast h k
    · rw [if_neg (by rw [hx]; decide)] at h
      exact hf_cast h k
  · exact (hf_nn h).elim
theorem hf_local {i : Instr} {len : Nat} (hC : hf_C w mi p l R s m args meth c) (hd : decode (hf_cd mi) pc = .ok (i, len)) (hlen : len = hf_len i len) (h : hf_do i mi pc L st g I J = hf_nx pc1 L1 st1 g1 I1 J1)
    (hbc : hf_c g1 ≤ R.cells + c0) (hbs : hf_s g1 ≤ R.slots + s0) (k : hf_at w mi p l e R s m args below meth c c0 s0 Q pc1 L1 st1 g1 I1 J1) : hf_at w mi p l e R s m args below meth c c0 s0 Q pc L st g I J := by
  cases i with
  | iconst n =>
    have hlen : len = 1 := hlen
    subst hlen
    change hf_nx (pc + 1) L (.int (Int32.ofInt n) :: st) g I J = _ at h
    exact hl_iconst hC hd (hf_cast h k)
  | bipush n =>
    have hlen : len = 2 := hlen
    subst hlen
    change hf_nx (pc + 2) L (.int (Int8.ofInt n).toInt32 :: st) g I J = _ at h
    exact hl_bipush hC hd (hf_cast h k)
  | sipush n =>
    have hlen : len = 3 := hlen
    subst hlen
    change hf_nx (pc + 3) L (.int (Int16.ofInt n).toInt32 :: st) g I J = _ at h
    exact hl_sipush hC hd (hf_cast h k)
  | lconst n =>
    have hlen : len = 1 := hlen
    subst hlen
    change hf_nx (pc + 1) L (.long (Int64.ofNat (n : Nat)) :: st) g I J = _ at h
    exact hl_lconst hC hd (hf_cast h k)
  | iload_n q =>
    have hlen : len = 1 := hlen
    subst hlen
    change hf_ld0 (hf_gl L q) (pc + 1) L st g I J = _ at h
    unfold hf_ld0 at h
    split at h
    · rename_i x hx
      exact hl_iload_n hC hd hx (hf_cast h k)
    · exact (hf_nn h).elim
  | istore_n q =>
    have hlen : len = 1 := hlen
    subst hlen
    change hf_st0 q (pc + 1) L st g I J = _ at h
    unfold hf_st0 at h
    split at h
    · split at h
      · rename_i hq
        exact hl_istore_n hC hd hq (hf_cast h k)
      · exact (hf_nn h).elim
    · exact (hf_nn h).elim
  | iload q =>
    have hlen : len = 2 := hlen
    subst hlen
    change hf_ld0 (hf_gl L q) (pc + 2) L st g I J = _ at h
    unfold hf_ld0 at h
    split at h
    · rename_i x hx
      exact hl_iload hC hd hx (hf_cast h k)
    · exact (hf_nn h).elim
  | istore q =>
    have hlen : len = 2 := hlen
    subst hlen
    change hf_st0 q (pc + 2) L st g I J = _ at h
    unfold hf_st0 at h
    split at h
    · split at h
      · rename_i hq
        exact hl_istore hC hd hq (hf_cast h k)
      · exact (hf_nn h).elim
    · exact (hf_nn h).elim
  | lload_n q =>
    have hlen : len = 1 := hlen
    subst hlen
    change hf_ld1 (hf_gl L q) (pc + 1) L st g I J = _ at h
    unfold hf_ld1 at h
    split at h
    · rename_i x hx
      exact hl_lload_n hC hd hx (hf_cast h k)
    · exact (hf_nn h).elim
  | lstore_n q =>
    have hlen : len = 1 := hlen
    subst hlen
    change hf_st1 q (pc + 1) L st g I J = _ at h
    unfold hf_st1 at h
    split at h
    · split at h
      · rename_i hq
        exact hl_lstore_n hC hd hq (hf_cast h k)
      · exact (hf_nn h).elim
    · exact (hf_nn h).elim
  | lload q =>
    have hlen : len = 2 := hlen
    subst hlen
    change hf_ld1 (hf_gl L q) (pc + 2) L st g I J = _ at h
    unfold hf_ld1 at h
    split at h
    · rename_i x hx
      exact hl_lload hC hd hx (hf_cast h k)
    · exact (hf_nn h).elim
  | lstore q =>
    have hlen : len = 2 := hlen
    subst hlen
    change hf_st1 q (pc + 2) L st g I J = _ at h
    unfold hf_st1 at h
    split at h
    · split at h
      · rename_i hq
        exact hl_lstore hC hd hq (hf_cast h k)
      · exact (hf_nn h).elim
    · exact (hf_nn h).elim
  | aload_n q =>
    have hlen : len = 1 := hlen
    subst hlen
    change hf_ld2 (hf_gl L q) (pc + 1) L st g I J = _ at h
    unfold hf_ld2 at h
    split at h
    · rename_i x hx
      exact hl_aload_n hC hd hx (hf_cast h k)
    · exact (hf_nn h).elim
  | astore_n q =>
    have hlen : len = 1 := hlen
    subst hlen
    change hf_st2 q (pc + 1) L st g I J = _ at h
    unfold hf_st2 at h
    split at h
    · split at h
      · rename_i hq
        exact hl_astore_n hC hd hq (hf_cast h k)
      · exact (hf_nn h).elim
    · exact (hf_nn h).elim
  | aload q =>
    have hlen : len = 2 := hlen
    subst hlen
    change hf_ld2 (hf_gl L q) (pc + 2) L st g I J = _ at h
    unfold hf_ld2 at h
    split at h
    · rename_i x hx
      exact hl_aload hC hd hx (hf_cast h k)
    · exact (hf_nn h).elim
  | astore q =>
    have hlen : len = 2 := hlen
    subst hlen
    change hf_st2 q (pc + 2) L st g I J = _ at h
    unfold hf_st2 at h
    split at h
    · split at h
      · rename_i hq
        exact hl_astore hC hd hq (hf_cast h k)
      · exact (hf_nn h).elim
    · exact (hf_nn h).elim
  | iinc q n =>
    have hlen : len = 3 := hlen
    subst hlen
    unfold hf_do at h
    dsimp only at h
    split at h
    · rename_i x hx
      split at h
      · rename_i hq
        exact hl_iinc hC hd hx hq (hf_cast h k)
      · exact (hf_nn h).elim
    · exact (hf_nn h).elim
  | iadd =>
    have hlen : len = 1 := hlen
    subst hlen
    change hf_i2 (· + ·) pc L st g I J = _ at h
    unfold hf_i2 at h
    split at h
    · exact hl_iadd hC hd (hf_cast h k)
    · exact (hf_nn h).elim
  | isub =>
    have hlen : len = 1 := hlen
    subst hlen
    change hf_i2 (· - ·) pc L st g I J = _ at h
    unfold hf_i2 at h
    split at h
    · exact hl_isub hC hd (hf_cast h k)
    · exact (hf_nn h).elim
  | imul =>
    have hlen : len = 1 := hlen
    subst hlen
    change hf_i2 (· * ·) pc L st g I J = _ at h
    unfold hf_i2 at h
    split at h
    · exact hl_imul hC hd (hf_cast h k)
    · exact (hf_nn h).elim
  | iand =>
    have hlen : len = 1 := hlen
    subst hlen
    change hf_i2 (· &&& ·) pc L st g I J = _ at h
    unfold hf_i2 at h
    split at h
    · exact hl_iand hC hd (hf_cast h k)
    · exact (hf_nn h).elim
  | ishr =>
    have hlen : len = 1 := hlen
    subst hlen
    change hf_i2 (fun x y => x >>> (y &&& 31)) pc L st g I J = _ at h
    unfold hf_i2 at h
    split at h
    · exact hl_ishr hC hd (hf_cast h k)
    · exact (hf_nn h).elim
  | ladd =>
    have hlen : len = 1 := hlen
    subst hlen
    change hf_l2 (· + ·) pc L st g I J = _ at h
    unfold hf_l2 at h
    split at h
    · exact hl_ladd hC hd (hf_cast h k)
    · exact (hf_nn h).elim
  | lsub =>
    have hlen : len = 1 := hlen
    subst hlen
    change hf_l2 (· - ·) pc L st g I J = _ at h
    unfold hf_l2 at h
    split at h
    · exact hl_lsub hC hd (hf_cast h k)
    · exact (hf_nn h).elim
  | lmul =>
    have hlen : len = 1 := hlen
    subst hlen
    change hf_l2 (· * ·) pc L st g I J = _ at h
    unfold hf_l2 at h
    split at h
    · exact hl_lmul hC hd (hf_cast h k)
    · exact (hf_nn h).elim
  | land =>
    have hlen : len = 1 := hlen
    subst hlen
    change hf_l2 (· &&& ·) pc L st g I J = _ at h
    unfold hf_l2 at h
    split at h
    · exact hl_land hC hd (hf_cast h k)
    · exact (hf_nn h).elim
  | lor =>
    have hlen : len = 1 := hlen
    subst hlen
    change hf_l2 (· ||| ·) pc L st g I J = _ at h
    unfold hf_l2 at h
    split at h
    · exact hl_lor hC hd (hf_cast h k)
    · exact (hf_nn h).elim
  | lxor =>
    have hlen : len = 1 := hlen
    subst hlen
    change hf_l2 (· ^^^ ·) pc L st g I J = _ at h
    unfold hf_l2 at h
    split at h
    · exact hl_lxor hC hd (hf_cast h k)
    · exact (hf_nn h).elim
  | idiv =>
    have hlen : len = 1 := hlen
    subst hlen
    unfold hf_do at h
    dsimp only at h
    split at h
    · split at h
      · exact (hf_nn h).elim
      · rename_i hz
        exact hl_idiv hC hd hz (hf_cast h k)
    · exact (hf_nn h).elim
  | irem =>
    have hlen : len = 1 := hlen
    subst hlen
    unfold hf_do at h
    dsimp only at h
    split at h
    · split at h
      · exact (hf_nn h).elim
      · rename_i hz
        exact hl_irem hC hd hz (hf_cast h k)
    · exact (hf_nn h).elim
  | ldiv =>
    have hlen : len = 1 := hlen
    subst hlen
    unfold hf_do at h
    dsimp only at h
    split at h
    · split at h
      · exact (hf_nn h).elim
      · rename_i hz
        exact hl_ldiv hC hd hz (hf_cast h k)
    · exact (hf_nn h).elim
  | lrem =>
    have hlen : len = 1 := hlen
    subst hlen
    unfold hf_do at h
    dsimp only at h
    split at h
    · split at h
      · exact (hf_nn h).elim
      · rename_i hz
        exact hl_lrem hC hd hz (hf_cast h k)
    · exact (hf_nn h).elim
  | ineg =>
    have hlen : len = 1 := hlen
    subst hlen
    unfold hf_do at h
    dsimp only at h
    split at h
    · exact hl_ineg hC hd (hf_cast h k)
    · exact (hf_nn h).elim
  | lneg =>
    have hlen : len = 1 := hlen
    subst hlen
    unfold hf_do at h
    dsimp only at h
    split at h
    · exact hl_lneg hC hd (hf_cast h k)
    · exact (hf_nn h).elim
  | lshl =>
    have hlen : len = 1 := hlen
    subst hlen
    unfold hf_do at h
    dsimp only at h
    split at h
    · exact hl_lshl hC hd (hf_cast h k)
    · exact (hf_nn h).elim
  | lushr =>
    have hlen : len = 1 := hlen
    subst hlen
    unfold hf_do at h
    dsimp only at h
    split at h
    · exact hl_lushr hC hd (hf_cast h k)
    · exact (hf_nn h).elim
  | lcmp =>
    have hlen : len = 1 := hlen
    subst hlen
    unfold hf_do at h
    dsimp only at h
    split at h
    · exact hl_lcmp hC hd (hf_cast h k)
    · exact (hf_nn h).elim
  | i2l =>
    have hlen : len = 1 := hlen
    subst hlen
    unfold hf_do at h
    dsimp only at h
    split at h
    · exact hl_i2l hC hd (hf_cast h k)
    · exact (hf_nn h).elim
  | l2i =>
    have hlen : len = 1 := hlen
    subst hlen
    unfold hf_do at h
    dsimp only at h
    split at h
    · exact hl_l2i hC hd (hf_cast h k)
    · exact (hf_nn h).elim
  | dup =>
    have hlen : len = 1 := hlen
    subst hlen
    unfold hf_do at h
    dsimp only at h
    split at h
    · split at h
      · rename_i hv
        exact hl_dup hC hd hv (hf_cast h k)
      · exact (hf_nn h).elim
    · exact (hf_nn h).elim
  | pop =>
    have hlen : len = 1 := hlen
    subst hlen
    unfold hf_do at h
    dsimp only at h
    split at h
    · split at h
      · rename_i hv
        exact hl_pop hC hd hv (hf_cast h k)
      · exact (hf_nn h).elim
    · exact (hf_nn h).elim
  | dup2 =>
    have hlen : len = 1 := hlen
    subst hlen
    unfold hf_do at h
    dsimp only at h
    split at h
    · exact hl_dup2i hC hd (hf_cast h k)
    · exact hl_dup2l hC hd (hf_cast h k)
    · exact (hf_nn h).elim
  | ifCond op off =>
    have hlen : len = 3 := hlen
    subst hlen
    unfold hf_do at h
    dsimp only at h
    split at h
    · obtain ⟨h0, kt, kf⟩ := hf_br_k h k
      cases op with
      | eq => exact hl_if_eq hC hd h0 (fun q => kt (decide_eq_true q)) (fun q => kf (decide_eq_false q))
      | ne => exact hl_if_ne hC hd h0 (fun q => kt (decide_eq_true q)) (fun q => kf (decide_eq_false q))
      | lt => exact hl_if_lt hC hd h0 (fun q => kt (decide_eq_true q)) (fun q => kf (decide_eq_false q))
      | ge => exact hl_if_ge hC hd h0 (fun q => kt (decide_eq_true q)) (fun q => kf (decide_eq_false q))
      | gt => exact hl_if_gt hC hd h0 (fun q => kt (decide_eq_true q)) (fun q => kf (decide_eq_false q))
      | le => exact hl_if_le hC hd h0 (fun q => kt (decide_eq_true q)) (fun q => kf (decide_eq_false q))
    · exact (hf_nn h).elim
  | if_icmp op off =>
    have hlen : len = 3 := hlen
    subst hlen
    unfold hf_do at h
    dsimp only at h
    split at h
    · obtain ⟨h0, kt, kf⟩ := hf_br_k h k
      cases op with
      | eq => exact hl_icmp_eq hC hd h0 (fun q => kt (decide_eq_true q)) (fun q => kf (decide_eq_false q))
      | ne => exact hl_icmp_ne hC hd h0 (fun q => kt (decide_eq_true q)) (fun q => kf (decide_eq_false q))
      | lt => exact hl_icmp_lt hC hd h0 (fun q => kt (decide_eq_true q)) (fun q => kf (decide_eq_false q))
      | ge => exact hl_icmp_ge hC hd h0 (fun q => kt (decide_eq_true q)) (fun q => kf (decide_eq_false q))
      | gt => exact hl_icmp_gt hC hd h0 (fun q => kt (decide_eq_true q)) (fun q => kf (decide_eq_false q))
      | le => exact hl_icmp_le hC hd h0 (fun q => kt (decide_eq_true q)) (fun q => kf (decide_eq_false q))
    · exact (hf_nn h).elim
  | ifnonnull off =>
    have hlen : len = 3 := hlen
    subst hlen
    unfold hf_do at h
    dsimp only at h
    split at h
    · obtain ⟨h0, kt⟩ := hf_go_k h k
      exact hl_ifnonnull hC hd h0 kt
    · exact (hf_nn h).elim
  | goto off =>
    have hlen : len = 3 := hlen
    subst hlen
    unfold hf_do at h
    dsimp only at h
    obtain ⟨h0, kt⟩ := hf_go_k h k
    exact hl_goto hC hd h0 kt
  | tableswitch d lo hi offs =>
    unfold hf_do at h
    dsimp only at h
    split at h
    · split at h
      · rename_i hx
        obtain ⟨h0, kt⟩ := hf_go_k h k
        exact hl_tabO hC hd hx h0 kt
      · rename_i hx
        split at h
        · rename_i off ho
          obtain ⟨h0, kt⟩ := hf_go_k h k
          exact hl_tabI hC hd hx ho h0 kt
        · exact (hf_nn h).elim
    · exact (hf_nn h).elim
  | ldc2_w ix =>
    have hlen : len = 3 := hlen
    subst hlen
    unfold hf_do at h
    dsimp only at h
    split at h
    · rename_i v hv
      exact hl_ldc2 hC hd hv (hf_cast h k)
    · exact (hf_nn h).elim
  | ldc ix =>
    have hlen : len = 2 := hlen
    subst hlen
    unfold hf_do at h
    dsimp only at h
    split at h
    · rename_i v hv
      exact hl_ldc hC hd hv (hf_cast h k)
    · exact (hf_nn h).elim
  | getfield ix =>
    have hlen : len = 3 := hlen
    subst hlen
    unfold hf_do at h
    dsimp only at h
    exact hl_gf hC hd h k
  | putfield ix =>
    have hlen : len = 3 := hlen
    subst hlen
    unfold hf_do at h
    dsimp only at h
    exact hl_pf hC hd h k
  | getstatic ix =>
    have hlen : len = 3 := hlen
    subst hlen
    unfold hf_do at h
    dsimp only at h
    split at h
    · rename_i hq
      obtain ⟨h1, rfl⟩ := hq
      exact hl_gets hC hd h1 (hf_cast h k)
    · exact (hf_nn h).elim
  | iaload =>
    have hlen : len = 1 := hlen
    subst hlen
    unfold hf_do at h
    dsimp only at h
    unfold hf_ia at h
    split at h
    · split at h
      · rename_i hq
        exact hl_iald hC hd (hq.1.imp id (fun z => z.2)) hq.2 (hf_cast h k)
      · exact (hf_nn h).elim
    · exact (hf_nn h).elim
  | laload =>
    have hlen : len = 1 := hlen
    subst hlen
    unfold hf_do at h
    dsimp only at h
    unfold hf_la1 at h
    split at h
    · split at h
      · rename_i hq
        exact hl_lald hC hd hq.1 hq.2 (hf_cast h k)
      · exact (hf_nn h).elim
    · exact (hf_nn h).elim
  | aaload =>
    have hlen : len = 1 := hlen
    subst hlen
    unfold hf_do at h
    dsimp only at h
    unfold hf_aa at h
    split at h
    · split at h
      · rename_i hq
        split at h
        · rename_i x hx
          exact hl_aald hC hd hq.1 hq.2 hx (hf_cast h k)
        · exact (hf_nn h).elim
      · exact (hf_nn h).elim
    · exact (hf_nn h).elim
  | iastore =>
    have hlen : len = 1 := hlen
    subst hlen
    unfold hf_do at h
    dsimp only at h
    unfold hf_is at h
    split at h
    · split at h
      · rename_i hq
        exact hl_iast hC hd hq.1 hq.2 (hf_cast h k)
      · exact (hf_nn h).elim
    · exact (hf_nn h).elim
  | lastore =>
    have hlen : len = 1 := hlen
    subst hlen
    unfold hf_do at h
    dsimp only at h
    unfold hf_ls at h
    split at h
    · split at h
      · rename_i hq
        exact hl_last hC hd hq.1 hq.2 (hf_cast h k)
      · exact (hf_nn h).elim
    · exact (hf_nn h).elim
  | aastore =>
    have hlen : len = 1 := hlen
    subst hlen
    unfold hf_do at h
    dsimp only at h
    unfold hf_as at h
    split at h
    · split at h
      · rename_i hq
        exact hl_aast hC hd hq.1 hq.2.1 hq.2.2 (hf_cast h k)
      · exact (hf_nn h).elim
    · exact (hf_nn h).elim
  | arraylength =>
    have hlen : len = 1 := hlen
    subst hlen
    unfold hf_do at h
    dsimp only at h
    unfold hf_al at h
    split at h
    · split at h
      · rename_i hq
        exact hl_alen hC hd hq.1 (hf_cast h k)
      · exact (hf_nn h).elim
    · exact (hf_nn h).elim
  | newarray t =>
    have hlen : len = 2 := hlen
    subst hlen
    unfold hf_do at h
    dsimp only at h
    unfold hf_na at h
    split at h
    · split at h
      · rename_i hq
        obtain ⟨q1, q2, q3, q4, q5, q6⟩ := hq
        have h9 := h
        simp only [hf_nx, Option.some.injEq, Sum.inl.injEq, Prod.mk.injEq] at h9
        obtain ⟨-, -, -, eg, -, -⟩ := h9
        rw [← eg] at hbc hbs
        exact hl_newa hC hd q6 q1 q2 q3 q4 hbc hbs (hf_cast h k)
      · exact (hf_nn h).elim
    · exact (hf_nn h).elim
  | anewarray ix =>
    have hlen : len = 3 := hlen
    subst hlen
    unfold hf_do at h
    dsimp only at h
    split at h
    · rename_i hcl
      unfold hf_na at h
      split at h
      · split at h
        · rename_i hq
          obtain ⟨q1, q2, q3, q4, q5, q6⟩ := hq
          have h9 := h
          simp only [hf_nx, Option.some.injEq, Sum.inl.injEq, Prod.mk.injEq] at h9
          obtain ⟨-, -, -, eg, -, -⟩ := h9
          rw [← eg] at hbc hbs
          exact hl_anew hC hd hcl.1 q1 q2 q3 q4 hbc hbs (hf_cast h k)
        · exact (hf_nn h).elim
      · exact (hf_nn h).elim
    · exact (hf_nn h).elim
  | new ix =>
    have hlen : len = 3 := hlen
    subst hlen
    unfold hf_do at h
    dsimp only at h
    cases hcl : hf_cl (hf_oc mi) ix with
    | none => unfold hf_ne at h; rw [hcl] at h; exact (hf_nn h).elim
    | some ci =>
      by_cases hci : ci < 100
      · unfold hf_ne at h
        rw [hcl] at h
        dsimp only at h
        rw [if_pos hci] at h
        split at h
        · rename_i hq
          have h9 := h
          simp only [hf_nx, Option.some.injEq, Sum.inl.injEq, Prod.mk.injEq] at h9
          obtain ⟨-, -, -, eg, -, -⟩ := h9
          rw [← eg] at hbc hbs
          exact hl_new hC hd hcl hci hq.1 hq.2 hbc hbs (hf_cast h k)
        · exact (hf_nn h).elim
      · exact (hf_nthrow hcl hci h).elim
  | invokespecial ix =>
    have hlen : len = 3 := hlen
    subst hlen
    unfold hf_do at h
    dsimp only at h
    split at h
    · rename_i hml
      unfold hf_oi at h
      split at h
      · split at h
        · rename_i hq
          exact hl_oinit hC hd (hf_oi_link hml) hq.1 hq.2.1 hq.2.2 (hf_cast h k)
        · exact (hf_nn h).elim
      · exact (hf_nn h).elim
    · exact (hf_ncall h).elim
  | invokevirtual ix =>
    have hlen : len = 3 := hlen
    subst hlen
    unfold hf_do at h
    dsimp only at h
    exact (hf_ncall h).elim
  | invokestatic ix =>
    have hlen : len = 3 := hlen
    subst hlen
    unfold hf_do at h
    dsimp only at h
    exact (hf_ncall h).elim
  | ireturn =>
    have hlen : len = 1 := hlen
    subst hlen
    unfold hf_do at h
    dsimp only at h
    exact (hf_nret0 h).elim
  | lreturn =>
    have hlen : len = 1 := hlen
    subst hlen
    unfold hf_do at h
    dsimp only at h
    exact (hf_nret1 h).elim
  | areturn =>
    have hlen : len = 1 := hlen
    subst hlen
    unfold hf_do at h
    dsimp only at h
    exact (hf_nret2 h).elim
  | return_ =>
    have hlen : len = 1 := hlen
    subst hlen
    unfold hf_do at h
    dsimp only at h
    exact (hf_nret3 h).elim
  | _ => exact (hf_nn h).elim
end
