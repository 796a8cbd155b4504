/-! STEPS OF THE PURE MACHINE AS EQUATIONS -/
section
variable {mi pc pc2 : Nat} {L L2 : hf_Lo} {st st2 : List Value} {g g2 : hf_G} {I I2 : hf_I} {J J2 : hf_J} {cc : ByteArray} {i : Instr} {len : Nat}
theorem r_nx (hc : hf_cd mi = cc) (hd : decode cc pc = .ok (i, len)) (hl : len = hf_len i len) (h : hf_do i mi pc L st g I J = hf_nx pc2 L2 st2 g2 I2 J2) : hf_rn mi pc L st g I J = hf_rn mi pc2 L2 st2 g2 I2 J2 := hf_rn_nx ((hf_stp_of hc hd hl).trans h)
theorem r_done {r : hf_R} (hc : hf_cd mi = cc) (hd : decode cc pc = .ok (i, len)) (hl : len = hf_len i len) (h : hf_do i mi pc L st g I J = some (.inr (.inr r))) : hf_rn mi pc L st g I J = some r := hf_rn_done ((hf_stp_of hc hd hl).trans h)
theorem r_call {y : Nat} {as rest : List Value} {E : hf_Lo} (hc : hf_cd mi = cc) (hd : decode cc pc = .ok (i, len)) (hl : len = hf_len i len) (h : hf_do i mi pc L st g I J = some (.inr (.inl (y, as, rest)))) (hE : hf_ent (hf_nL y) as = E) : hf_rn mi pc L st g I J = hf_bd mi pc L rest (hf_rn y 0 E [] g I J) := by
  rw [← hE]
  exact hf_rn_call ((hf_stp_of hc hd hl).trans h)
theorem r_br {x : Prop} [Decidable x] {off : Int} {tgt : Nat} (hc : hf_cd mi = cc) (hd : decode cc pc = .ok (i, len)) (hl : len = hf_len i len) (h : hf_do i mi pc L st g I J = hf_br (decide x) pc off L2 st2 g I J) (ht : (decide (0 ≤ (pc : Int) + off) && decide (hf_tg pc off = tgt)) = true) :
    hf_rn mi pc L st g I J = if x then hf_rn mi tgt L2 st2 g I J else hf_rn mi (pc + 3) L2 st2 g I J := hf_rn_br ((hf_stp_of hc hd hl).trans h) ht
theorem r_go {off : Int} {tgt : Nat} (hc : hf_cd mi = cc) (hd : decode cc pc = .ok (i, len)) (hl : len = hf_len i len) (h : hf_do i mi pc L st g I J = hf_go pc off L2 st2 g I J) (ht : (decide (0 ≤ (pc : Int) + off) && decide (hf_tg pc off = tgt)) = true) :
    hf_rn mi pc L st g I J = hf_rn mi tgt L2 st2 g I J := hf_rn_go ((hf_stp_of hc hd hl).trans h) ht
theorem r_iconst {n : Int} {v : Int32} (hc : hf_cd mi = cc) (hd : decode cc pc = .ok (.iconst n, 1)) (hv : Int32.ofInt n = v) : hf_rn mi pc L st g I J = hf_rn mi (pc + 1) L (.int v :: st) g I J := by rw [← hv]; exact r_nx hc hd rfl rfl
theorem r_bipush {n : Int} {v : Int32} (hc : hf_cd mi = cc) (hd : decode cc pc = .ok (.bipush n, 2)) (hv : (Int8.ofInt n).toInt32 = v) : hf_rn mi pc L st g I J = hf_rn mi (pc + 2) L (.int v :: st) g I J := by rw [← hv]; exact r_nx hc hd rfl rfl
theorem r_sipush {n : Int} {v : Int32} (hc : hf_cd mi = cc) (hd : decode cc pc = .ok (.sipush n, 3)) (hv : (Int16.ofInt n).toInt32 = v) : hf_rn mi pc L st g I J = hf_rn mi (pc + 3) L (.int v :: st) g I J := by rw [← hv]; exact r_nx hc hd rfl rfl
theorem r_lconst {n : Fin 2} {v : Int64} (hc : hf_cd mi = cc) (hd : decode cc pc = .ok (.lconst n, 1)) (hv : Int64.ofNat (n : Nat) = v) : hf_rn mi pc L st g I J = hf_rn mi (pc + 1) L (.long v :: st) g I J := by rw [← hv]; exact r_nx hc hd rfl rfl
theorem r_ldc2 {ix : Nat} {v : Int64} (hc : hf_cd mi = cc) (hd : decode cc pc = .ok (.ldc2_w ix, 3)) (hv : hf_ll (hf_oc mi) ix = some v) : hf_rn mi pc L st g I J = hf_rn mi (pc + 3) L (.long v :: st) g I J := by
  refine r_nx hc hd rfl ?_
  simp only [hf_do, hv]
theorem r_ldc {ix : Nat} {v : Int32} (hc : hf_cd mi = cc) (hd : decode cc pc = .ok (.ldc ix, 2)) (hv : hf_il (hf_oc mi) ix = some v) : hf_rn mi pc L st g I J = hf_rn mi (pc + 2) L (.int v :: st) g I J := r_nx hc hd rfl (by show (match hf_il (hf_oc mi) ix with | some v => hf_nx (pc + 2) L (.int v :: st) g I J | none => none) = _; rw [hv])
theorem r_idiv {x y : Int32} (hc : hf_cd mi = cc) (hd : decode cc pc = .ok (.idiv, 1)) (h : ¬ y = 0) : hf_rn mi pc L (.int y :: .int x :: st) g I J = hf_rn mi (pc + 1) L (.int (x / y) :: st) g I J := by
  refine r_nx hc hd rfl ?_
  simp only [hf_do, if_neg h]
theorem r_irem {x y : Int32} (hc : hf_cd mi = cc) (hd : decode cc pc = .ok (.irem, 1)) (h : ¬ y = 0) : hf_rn mi pc L (.int y :: .int x :: st) g I J = hf_rn mi (pc + 1) L (.int (x - x / y * y) :: st) g I J := by
  refine r_nx hc hd rfl ?_
  simp only [hf_do, if_neg h]
theorem r_ldiv {x y : Int64} (hc : hf_cd mi = cc) (hd : decode cc pc = .ok (.ldiv, 1)) (h : ¬ y = 0) : hf_rn mi pc L (.long y :: .long x :: st) g I J = hf_rn mi (pc + 1) L (.long (x / y) :: st) g I J := by
  refine r_nx hc hd rfl ?_
  simp only [hf_do, if_neg h]
theorem r_lrem {x y : Int64} (hc : hf_cd mi = cc) (hd : decode cc pc = .ok (.lrem, 1)) (h : ¬ y = 0) : hf_rn mi pc L (.long y :: .long x :: st) g I J = hf_rn mi (pc + 1) L (.long (x - x / y * y) :: st) g I J := by
  refine r_nx hc hd rfl ?_
  simp only [hf_do, if_neg h]
theorem r_getI {ix c k kd a : Nat} (hc : hf_cd mi = cc) (hd : decode cc pc = .ok (.getfield ix, 3)) (hf : hf_fl (hf_oc mi) ix = some (c, k, kd)) (h1 : hf_ft c k = 0) (h2 : decide (k < hf_nf c) = true) (hk : hf_k g a = (0, c)) : hf_rn mi pc L (.ref a :: st) g I J = hf_rn mi (pc + 3) L (.int (I a k) :: st) g I J := by
  refine r_nx hc hd rfl ?_
  simp only [hf_do, hf, hf_gf, hk, h1, of_decide_eq_true h2, and_self, if_true]
theorem r_getJ {ix c k kd a : Nat} (hc : hf_cd mi = cc) (hd : decode cc pc = .ok (.getfield ix, 3)) (hf : hf_fl (hf_oc mi) ix = some (c, k, kd)) (h1 : hf_ft c k = 1) (h2 : decide (k < hf_nf c) = true) (hk : hf_k g a = (0, c)) : hf_rn mi pc L (.ref a :: st) g I J = hf_rn mi (pc + 3) L (.long (J a k) :: st) g I J := by
  refine r_nx hc hd rfl ?_
  simp only [hf_do, hf, hf_gf, hk, h1, of_decide_eq_true h2, and_self, if_true]
theorem r_getR {ix c k kd a : Nat} (hc : hf_cd mi = cc) (hd : decode cc pc = .ok (.getfield ix, 3)) (hf : hf_fl (hf_oc mi) ix = some (c, k, kd)) (h1 : hf_ft c k = 2) (h2 : decide (k < hf_nf c) = true) (hk : hf_k g a = (0, c)) (hr : (hf_r g a k).isSome = true) : hf_rn mi pc L (.ref a :: st) g I J = hf_rn mi (pc + 3) L (.ref ((hf_r g a k).getD 0) :: st) g I J := by
  refine r_nx hc hd rfl ?_
  obtain ⟨x, hx⟩ := Option.isSome_iff_exists.mp hr
  simp only [hf_do, hf, hf_gf, hk, h1, of_decide_eq_true h2, hx, and_self, if_true, Option.getD]
theorem r_putI {ix c k kd a : Nat} {x : Int32} (hc : hf_cd mi = cc) (hd : decode cc pc = .ok (.putfield ix, 3)) (hf : hf_fl (hf_oc mi) ix = some (c, k, kd)) (h1 : hf_ft c k = 0) (h2 : (decide (k < hf_nf c) && decide (hf_fin c k = false) && decide ((hf_ct c k).2.2.1 = "I")) = true) (hk : hf_k g a = (0, c)) : hf_rn mi pc L (.int x :: .ref a :: st) g I J = hf_rn mi (pc + 3) L st g (hf_u I a k x) J := by
  refine r_nx hc hd rfl ?_
  simp only [Bool.and_eq_true, decide_eq_true_eq] at h2
  have h3 : hf_fin c k = true → (hf_y mi).name = "<init>" ∧ (hf_ct c k).1 = hf_on (hf_oc mi) ∧ kd = 0 := fun q => by rw [h2.1.2] at q; cases q
  simp only [hf_do, hf, hf_pf]
  rw [if_pos ⟨hk, h2.1.1, h3⟩, h1]
  exact if_pos h2.2
theorem r_putJ {ix c k kd a : Nat} {x : Int64} (hc : hf_cd mi = cc) (hd : decode cc pc = .ok (.putfield ix, 3)) (hf : hf_fl (hf_oc mi) ix = some (c, k, kd)) (h1 : hf_ft c k = 1) (h2 : (decide (k < hf_nf c) && decide (hf_fin c k = false)) = true) (hk : hf_k g a = (0, c)) : hf_rn mi pc L (.long x :: .ref a :: st) g I J = hf_rn mi (pc + 3) L st g I (hf_u J a k x) := by
  refine r_nx hc hd rfl ?_
  simp only [Bool.and_eq_true, decide_eq_true_eq] at h2
  have h3 : hf_fin c k = true → (hf_y mi).name = "<init>" ∧ (hf_ct c k).1 = hf_on (hf_oc mi) ∧ kd = 0 := fun q => by rw [h2.2] at q; cases q
  simp only [hf_do, hf, hf_pf]
  rw [if_pos ⟨hk, h2.1, h3⟩, h1]
  rfl
theorem r_putR {ix c k kd a x : Nat} (hc : hf_cd mi = cc) (hd : decode cc pc = .ok (.putfield ix, 3)) (hf : hf_fl (hf_oc mi) ix = some (c, k, kd)) (h1 : hf_ft c k = 2) (h2 : (decide (k < hf_nf c) && decide ((hf_y mi).name = "<init>") && decide ((hf_ct c k).1 = hf_on (hf_oc mi)) && decide (kd = 0)) = true) (hk : hf_k g a = (0, c)) : hf_rn mi pc L (.ref x :: .ref a :: st) g I J = hf_rn mi (pc + 3) L st (hf_sr g a k (some x)) I J := by
  refine r_nx hc hd rfl ?_
  simp only [Bool.and_eq_true, decide_eq_true_eq] at h2
  simp only [hf_do, hf, hf_pf]
  rw [if_pos ⟨hk, h2.1.1.1, fun _ => ⟨h2.1.1.2, h2.1.2, h2.2⟩⟩, h1]
  rfl
theorem r_iald {a : Nat} {j : Int32} (hc : hf_cd mi = cc) (hd : decode cc pc = .ok (.iaload, 1)) (hk : (hf_k g a).1 = 2 ∨ (hf_k g a).1 = 6) (hi : hf_in j (hf_k g a).2 = true) : hf_rn mi pc L (.int j :: .ref a :: st) g I J = hf_rn mi (pc + 1) L (.int (I a j.toNatClampNeg) :: st) g I J := by
  refine r_nx hc hd rfl ?_
  simp only [hf_do, hf_ia]
  exact if_pos ⟨hk.imp id (fun z => ⟨trivial, z⟩), hi⟩
theorem r_lald {a : Nat} {j : Int32} (hc : hf_cd mi = cc) (hd : decode cc pc = .ok (.laload, 1)) (hk : (hf_k g a).1 = 3) (hi : hf_in j (hf_k g a).2 = true) : hf_rn mi pc L (.int j :: .ref a :: st) g I J = hf_rn mi (pc + 1) L (.long (J a j.toNatClampNeg) :: st) g I J := by
  refine r_nx hc hd rfl ?_
  simp only [hf_do, hf_la1]
  exact if_pos ⟨hk, hi⟩
theorem r_aald {a : Nat} {j : Int32} (hc : hf_cd mi = cc) (hd : decode cc pc = .ok (.aaload, 1)) (hk : (hf_k g a).1 = 5) (hi : hf_in j (hf_k g a).2 = true) (hr : (hf_r g a j.toNatClampNeg).isSome = true) : hf_rn mi pc L (.int j :: .ref a :: st) g I J = hf_rn mi (pc + 1) L (.ref ((hf_r g a j.toNatClampNeg).getD 0) :: st) g I J := by
  refine r_nx hc hd rfl ?_
  obtain ⟨x, hx⟩ := Option.isSome_iff_exists.mp hr
  simp only [hf_do, hf_aa, hx]
  exact if_pos ⟨hk, hi⟩
theorem r_iast {a : Nat} {j x : Int32} (hc : hf_cd mi = cc) (hd : decode cc pc = .ok (.iastore, 1)) (hk : (hf_k g a).1 = 2) (hi : hf_in j (hf_k g a).2 = true) : hf_rn mi pc L (.int x :: .int j :: .ref a :: st) g I J = hf_rn mi (pc + 1) L st g (hf_u I a j.toNatClampNeg x) J := by
  refine r_nx hc hd rfl ?_
  simp only [hf_do, hf_is]
  exact if_pos ⟨hk, hi⟩
theorem r_last {a : Nat} {j : Int32} {x : Int64} (hc : hf_cd mi = cc) (hd : decode cc pc = .ok (.lastore, 1)) (hk : (hf_k g a).1 = 3) (hi : hf_in j (hf_k g a).2 = true) : hf_rn mi pc L (.long x :: .int j :: .ref a :: st) g I J = hf_rn mi (pc + 1) L st g I (hf_u J a j.toNatClampNeg x) := by
  refine r_nx hc hd rfl ?_
  simp only [hf_do, hf_ls]
  exact if_pos ⟨hk, hi⟩
theorem r_aast {a x : Nat} {j : Int32} (hc : hf_cd mi = cc) (hd : decode cc pc = .ok (.aastore, 1)) (hk : (hf_k g a).1 = 5) (hi : hf_in j (hf_k g a).2 = true) (hx : hf_k g x = (0, 3)) : hf_rn mi pc L (.ref x :: .int j :: .ref a :: st) g I J = hf_rn mi (pc + 1) L st (hf_sr g a j.toNatClampNeg (some x)) I J := by
  refine r_nx hc hd rfl ?_
  simp only [hf_do, hf_as]
  exact if_pos ⟨hk, hi, hx⟩
theorem r_alen {a : Nat} (hc : hf_cd mi = cc) (hd : decode cc pc = .ok (.arraylength, 1)) (hk : 2 ≤ (hf_k g a).1 ∧ (hf_k g a).1 ≤ 6) (hn : (hf_k g a).2 < 2147483648) : hf_rn mi pc L (.ref a :: st) g I J = hf_rn mi (pc + 1) L (.int (nI (hf_k g a).2) :: st) g I J := by
  refine r_nx hc hd rfl ?_
  simp only [hf_do, hf_al]
  exact if_pos ⟨hk, hn⟩
theorem r_new {ix c : Nat} (hc : hf_cd mi = cc) (hd : decode cc pc = .ok (.new ix, 3)) (hcl : hf_cl (hf_oc mi) ix = some c) (h1 : decide (c < 100) = true) (he : hf_e g = true) (hn : hf_n g < 1000000) : hf_rn mi pc L st g I J = hf_rn mi (pc + 3) L (.ref (hf_n g) :: st) (hf_mk g (0, c) (hf_nf c)) (hf_w I (hf_n g) (fun _ => 0)) (hf_w J (hf_n g) (fun _ => 0)) := by
  refine r_nx hc hd rfl ?_
  simp only [hf_do, hf_ne, hcl, if_pos (of_decide_eq_true h1)]
  exact if_pos ⟨he, hn⟩
theorem r_newa {t : ArrayType} {j : Int32} (hc : hf_cd mi = cc) (hd : decode cc pc = .ok (.newarray t, 2)) (h1 : (decide (2 ≤ hf_at0 t) && decide (hf_at0 t ≤ 5)) = true) (hj : ¬ j < 0) (hj2 : j.toNatClampNeg ≤ 100000) (he : hf_e g = true) (hn : hf_n g < 1000000) : hf_rn mi pc L (.int j :: st) g I J = hf_rn mi (pc + 2) L (.ref (hf_n g) :: st) (hf_mk g (hf_at0 t, j.toNatClampNeg) j.toNatClampNeg) (hf_w I (hf_n g) (fun _ => 0)) (hf_w J (hf_n g) (fun _ => 0)) := by
  refine r_nx hc hd rfl ?_
  simp only [Bool.and_eq_true, decide_eq_true_eq] at h1
  simp only [hf_do, hf_na]
  exact if_pos ⟨hj, hj2, he, hn, h1.1, h1.2⟩
theorem r_anew {ix : Nat} {j : Int32} (hc : hf_cd mi = cc) (hd : decode cc pc = .ok (.anewarray ix, 3)) (h1 : (decide (hf_cl (hf_oc mi) ix = some 3) && decide (hf_oc mi = 0)) = true) (hj : ¬ j < 0) (hj2 : j.toNatClampNeg ≤ 100000) (he : hf_e g = true) (hn : hf_n g < 1000000) : hf_rn mi pc L (.int j :: st) g I J = hf_rn mi (pc + 3) L (.ref (hf_n g) :: st) (hf_mk g (5, j.toNatClampNeg) j.toNatClampNeg) (hf_w I (hf_n g) (fun _ => 0)) (hf_w J (hf_n g) (fun _ => 0)) := by
  refine r_nx hc hd rfl ?_
  simp only [Bool.and_eq_true, decide_eq_true_eq] at h1
  simp only [hf_do, hf_na]
  rw [if_pos h1]
  exact if_pos ⟨hj, hj2, he, hn, by decide, by decide⟩
theorem r_ret0 {x : Int32} (hc : hf_cd mi = cc) (hd : decode cc pc = .ok (.ireturn, 1)) (hr : hf_rt mi = some .int) : hf_rn mi pc L [.int x] g I J = some (.inl (some (.int x)), g, I, J) := by
  refine r_done hc hd rfl ?_
  simp only [hf_do, hf_ret0]
  exact if_pos (Or.inl hr)
theorem r_retz {x : Int32} (hc : hf_cd mi = cc) (hd : decode cc pc = .ok (.ireturn, 1)) (hr : hf_rt mi = some .boolean) (hx : x = 0 ∨ x = 1) : hf_rn mi pc L [.int x] g I J = some (.inl (some (.int x)), g, I, J) := by
  refine r_done hc hd rfl ?_
  simp only [hf_do, hf_ret0]
  exact if_pos (Or.inr ⟨hr, hx⟩)
theorem r_ret1 {x : Int64} (hc : hf_cd mi = cc) (hd : decode cc pc = .ok (.lreturn, 1)) (hr : hf_rt mi = some .long) : hf_rn mi pc L [.long x] g I J = some (.inl (some (.long x)), g, I, J) := by
  refine r_done hc hd rfl ?_
  simp only [hf_do, hf_ret1]
  exact if_pos hr
theorem r_ret2 {x : Nat} (hc : hf_cd mi = cc) (hd : decode cc pc = .ok (.areturn, 1)) (hr : hf_isO (hf_rt mi) = true) : hf_rn mi pc L [.ref x] g I J = some (.inl (some (.ref x)), g, I, J) := by
  refine r_done hc hd rfl ?_
  simp only [hf_do, hf_ret2]
  exact if_pos hr
theorem r_ret3 (hc : hf_cd mi = cc) (hd : decode cc pc = .ok (.return_, 1)) (hr : hf_rt mi = none) : hf_rn mi pc L [] g I J = some (.inl none, g, I, J) := by
  refine r_done hc hd rfl ?_
  simp only [hf_do, hf_ret3]
  exact if_pos hr
theorem r_callS {y n kd ix : Nat} {as rest : List Value} {E : hf_Lo} (hc : hf_cd mi = cc) (hd : decode cc pc = .ok (.invokestatic ix, 3)) (hm : hf_ml (hf_oc mi) ix = some (y, n, kd)) (h1 : (decide (kd ∈ [0, 3, 6]) && hf_rmk mi y) = true) (hst : st.drop n = rest) (has : (st.take n).reverse = as) (h2 : hf_cs rest ≤ 8) (h3 : n ≤ st.length) (h4 : (hf_la as).length ≤ hf_nL y) (hE : hf_ent (hf_nL y) as = E) : hf_rn mi pc L st g I J = hf_bd mi pc L rest (hf_rn y 0 E [] g I J) := by
  simp only [Bool.and_eq_true, decide_eq_true_eq] at h1
  refine r_call (as := as) hc hd rfl ?_ hE
  subst hst
  subst has
  have hk : kd = 0 ∨ kd = 3 ∨ kd = 6 := by simpa using h1.1
  simp only [hf_do, hm, hf_call]
  rw [if_pos h1]
  rcases hk with rfl | rfl | rfl <;> exact if_pos ⟨h2, h3, h4⟩
theorem r_callV {y n kd ix b ci : Nat} {as rest : List Value} {E : hf_Lo} (hc : hf_cd mi = cc) (hd : decode cc pc = .ok (.invokevirtual ix, 3)) (hm : hf_ml (hf_oc mi) ix = some (y, n, kd)) (h1 : (decide (kd ∈ [1, 4]) && hf_rmk mi y && decide (hf_cn ci = (hf_y y).cls)) = true) (hst : st.drop n = .ref b :: rest) (has : (st.take n).reverse = as) (h2 : hf_cs rest ≤ 8) (h3 : n ≤ st.length) (h4 : (hf_la (.ref b :: as)).length ≤ hf_nL y) (hE : hf_ent (hf_nL y) (.ref b :: as) = E) (hk : hf_k g b = (0, ci)) : hf_rn mi pc L st g I J = hf_bd mi pc L rest (hf_rn y 0 E [] g I J) := by
  simp only [Bool.and_eq_true, decide_eq_true_eq] at h1
  refine r_call (as := .ref b :: as) hc hd rfl ?_ hE
  subst has
  have hk2 : kd = 1 ∨ kd = 4 := by simpa using h1.1.1
  simp only [hf_do, hm, hf_call]
  rw [if_pos h1.1]
  rcases hk2 with rfl | rfl
  · rw [hst]
    exact if_pos ⟨h2, h3, by rw [hk], by rw [hk]; exact h1.2, h4⟩
  · rw [hst]
    exact if_pos ⟨h2, h3, by rw [hk], by rw [hk]; exact h1.2, h4⟩
theorem r_callI {y n kd ix b : Nat} {as rest : List Value} {E : hf_Lo} (hc : hf_cd mi = cc) (hd : decode cc pc = .ok (.invokespecial ix, 3)) (hm : hf_ml (hf_oc mi) ix = some (y, n, kd)) (h1 : (decide (kd ∈ [2, 5]) && hf_rmk mi y && decide (y ≠ 999)) = true) (hst : st.drop n = .ref b :: rest) (has : (st.take n).reverse = as) (h2 : hf_cs rest ≤ 8) (h3 : n ≤ st.length) (h4 : (hf_la (.ref b :: as)).length ≤ hf_nL y) (hE : hf_ent (hf_nL y) (.ref b :: as) = E) : hf_rn mi pc L st g I J = hf_bd mi pc L rest (hf_rn y 0 E [] g I J) := by
  simp only [Bool.and_eq_true, decide_eq_true_eq] at h1
  refine r_call (as := .ref b :: as) hc hd rfl ?_ hE
  subst has
  have hk2 : kd = 2 ∨ kd = 5 := by simpa using h1.1.1
  simp only [hf_do, hm]
  rw [if_neg (fun q => by cases q; exact h1.2 rfl)]
  simp only [hf_call]
  rw [if_pos h1.1]
  rcases hk2 with rfl | rfl
  · rw [hst]
    exact if_pos ⟨h2, h3, h4⟩
  · rw [hst]
    exact if_pos ⟨h2, h3, h4⟩
theorem r_oinit {ix x : Nat} (hc : hf_cd mi = cc) (hd : decode cc pc = .ok (.invokespecial ix, 3)) (hm : hf_ml (hf_oc mi) ix = some (999, 0, 9)) (h1 : (decide (1 ≤ hf_fr mi) && decide (20 ≤ hf_lo mi)) = true) (h2 : hf_cs st ≤ 8) : hf_rn mi pc L (.ref x :: st) g I J = hf_rn mi (pc + 3) L st g I J := by
  simp only [Bool.and_eq_true, decide_eq_true_eq] at h1
  refine r_nx hc hd rfl ?_
  simp only [hf_do, if_pos hm, hf_oi]
  exact if_pos ⟨h2, h1⟩
theorem r_tab {d lo hi : Int} {offs : Array Int} {x : Int32} (hc : hf_cd mi = cc) (hd : decode cc pc = .ok (.tableswitch d lo hi offs, len)) : hf_rn mi pc L (.int x :: st) g I J = hf_rn mi pc L (.int x :: st) g I J := rfl
theorem r_tabO {d lo hi : Int} {offs : Array Int} {x : Int32} {tgt : Nat} (hc : hf_cd mi = cc) (hd : decode cc pc = .ok (.tableswitch d lo hi offs, len)) (hx : x.toInt < lo ∨ hi < x.toInt) (ht : (decide (0 ≤ (pc : Int) + d) && decide (hf_tg pc d = tgt)) = true) : hf_rn mi pc L (.int x :: st) g I J = hf_rn mi tgt L st g I J := by
  refine r_go (off := d) hc hd rfl ?_ ht
  simp only [hf_do, if_pos hx]
theorem r_tabI {d lo hi off : Int} {offs : Array Int} {x : Int32} {tgt : Nat} (hc : hf_cd mi = cc) (hd : decode cc pc = .ok (.tableswitch d lo hi offs, len)) (hx : ¬ (x.toInt < lo ∨ hi < x.toInt)) (ho : offs[(x.toInt - lo).toNat]? = some off) (ht : (decide (0 ≤ (pc : Int) + off) && decide (hf_tg pc off = tgt)) = true) : hf_rn mi pc L (.int x :: st) g I J = hf_rn mi tgt L st g I J := by
  refine r_go (off := off) hc hd rfl ?_ ht
  simp only [hf_do, if_neg hx, ho]
theorem r_throw {ix x : Nat} (hc : hf_cd mi = cc) (hd : decode cc pc = .ok (.new ix, 3)) (h : hf_ne mi ix pc L [] g I J = some (.inr (.inr (.inr x, hf_th g, I, J)))) : hf_rn mi pc L [] g I J = some (.inr x, hf_th g, I, J) := r_done hc hd rfl h
theorem r_gets (hc : hf_cd mi = cc) (hd : decode cc pc = .ok (.getstatic 94, 3)) (h : hf_oc mi = 1) : hf_rn mi pc L st g I J = hf_rn mi (pc + 3) L (.ref 1000002 :: st) g I J := by
  refine r_nx hc hd rfl ?_
  simp only [hf_do]
  exact if_pos ⟨h, trivial⟩
theorem r_iinc {k : Nat} {n : Int} {x v : Int32} (hc : hf_cd mi = cc) (hd : decode cc pc = .ok (.iinc k n, 3)) (hv : Int32.ofInt n = v) (hg : hf_gl L k = some (.int x)) (hk : k < L.length) (hL : hf_s1 L k (.int (x + v)) = L2) : hf_rn mi pc L st g I J = hf_rn mi (pc + 3) L2 st g I J := by
  subst hv
  subst hL
  refine r_nx hc hd rfl ?_
  simp only [hf_do, hg]
  exact if_pos hk
theorem hf_ne_is {ix c is ic : Nat} {w : Bool} (hc : hf_cd mi = cc) (h1 : hf_cl (hf_oc mi) ix = some c) (h2 : (decide (¬ c < 100) && decide (hf_hh mi = []) && decide (6 ≤ hf_fr mi) && decide (90 ≤ hf_lo mi)) = true)
    (d3 : decode cc (pc + 3) = .ok (.dup, 1)) (d4 : decode cc (pc + 4) = if w = true then .ok (.ldc_w is, 3) else .ok (.ldc is, 2)) (d6 : decode cc (pc + if w = true then 7 else 6) = .ok (.invokespecial ic, 3)) (d9 : decode cc (pc + if w = true then 10 else 9) = .ok (.athrow, 1))
    (h7 : ((hf_tt.lookup (hf_oc mi, ix, is, ic)).map fun q => (q.1, q.2.1)) = some (c - 100, w)) : hf_ne mi ix pc L [] g I J = some (.inr (.inr (.inr (c - 100), hf_th g, I, J))) := by
  subst hc
  simp only [Bool.and_eq_true, decide_eq_true_eq] at h2
  obtain ⟨⟨⟨a1, a2⟩, a3⟩, a4⟩ := h2
  rw [Option.map_eq_some_iff] at h7
  obtain ⟨⟨x, w2, t⟩, h7, h8⟩ := h7
  simp only [Prod.mk.injEq] at h8
  obtain ⟨rfl, rfl⟩ := h8
  unfold hf_ne
  simp only [h1, if_neg a1, a2, a3, a4, true_and, if_true]
  cases w2 with
  | true =>
    simp only [if_true] at d4 d6 d9
    simp only [d3, d4, d6, d9, h7, if_true]
  | false =>
    simp only [Bool.false_eq_true, if_false] at d4 d6 d9
    simp only [d3, d4, d6, d9, h7, if_true]
theorem hf_bd_v {v : Value} {rest : List Value} : hf_bd mi pc L rest (some (.inl (some v), g, I, J)) = hf_rn mi (pc + 3) L (v :: rest) g I J := rfl
theorem hf_bd_n {rest : List Value} : hf_bd mi pc L rest (some (.inl none, g, I, J)) = hf_rn mi (pc + 3) L rest g I J := rfl
theorem hf_bd_x {x : Nat} {rest : List Value} (h : hf_hh mi = []) : hf_bd mi pc L rest (some (.inr x, g, I, J)) = some (.inr x, g, I, J) := by
  rw [hf_bd, if_pos h]
theorem hf_iv_i {x : Int32} : hf_iv (some (.int x)) = some (.int x) := rfl
theorem hf_iv_l {x : Int64} : hf_iv (some (.long x)) = none := rfl
theorem hf_iv_a {x : Nat} : hf_iv (some (.ref x)) = some (.ref x) := rfl
theorem hf_iv_n : hf_iv none = none := rfl
theorem hf_iv_2 {v : Option Value} : hf_iv (hf_iv v) = hf_iv v := by
  cases v with
  | none => rfl
  | some v => cases v <;> rfl
end
