/-! PICTURES -/
section
variable {g : hf_G} {I : hf_I} {J : hf_J} {P G c k m n q a b : Nat} {u v w : Int64} {i j : Int32} {E : Nat → Int64}
theorem ix4 (k m : Nat) : (4 : Int32) * nI k + nI m = nI (4 * k + m) := by rw [show (4 : Int32) = nI 4 from rfl, nI_mul, nI_add]
theorem c_pcbegin (h : Pc g P) (hG : Gr g G) (hs : I G 4 = i) (hc : I G 5 = j) (hd : P + 2 + 8 < G ∨ G + 8 < P + 2) : hf_rn 42 0 [some (.ref P), some (.ref G)] [] g I J = some (.inl none, g, hf_u (hf_u I (P + 2) 4 i) (P + 2) 5 j, rwm (rwm4 J (P + 4) (P + 6) (P + 8) (P + 10) 64 (J (G + 2)) (J (G + 4)) (J (G + 6)) (J (G + 8))) (P + 14) 64 (fun _ => -1)) := by
  have hS := pc_sc1 h
  have hg : Gr g (P + 2) := sc_gr1 hS
  have hcp := c_grcopy (J := J) hg hG hs hc hd
  have f : hf_r g (P + 1) 0 = some (P + 2) := sc_r0 hS
  simp only [s42_0, s42_1, s42_4, s42_7, s42_8, s42_11, s42_12, s42_15, s42_18, s42_21, hf_bd_v, hf_bd_n, hf_iv_i, hf_iv_l, hf_iv_a, hf_iv_n, hf_iv_2, z_lgl, z_lgg, z_lge, z_lgle, z_lgz, Option.getD_some, Option.isSome_some, ↓reduceIte, not_true_eq_false, not_false_eq_true, Option.toList_some, Option.toList_none, List.cons_append, List.nil_append, Nat.reduceAdd, Nat.add_assoc, ku_ne, ku_same, ne_eq, Nat.reduceEqDiff, reduceCtorEq, Nat.add_eq_left, Nat.left_eq_add, Nat.reduceEqDiff, q10, q_ne, true_or, or_true, pc_k h, pc_r0 h, pc_r1 h, pc_r2 h, hS.1, f, hg.1, hcp, (pc_rw13 h).1, c_fil (pc_rw13 h)]
theorem c_goesOnIn (h : Pc g P) (hk : k < 64) : hf_rn 43 0 [some (.ref P), some (.int (nI k))] [] g I J = some (.inl (some (.int (J (P + 14) k).toInt32)), g, I, J) := by
  simp only [s43_0, s43_1, s43_4, s43_5, s43_8, s43_9, hf_bd_v, hf_bd_n, hf_iv_i, hf_iv_l, hf_iv_a, hf_iv_n, hf_iv_2, z_lgl, z_lgg, z_lge, z_lgle, z_lgz, Option.getD_some, Option.isSome_some, ↓reduceIte, not_true_eq_false, not_false_eq_true, Option.toList_some, Option.toList_none, List.cons_append, List.nil_append, Nat.reduceAdd, Nat.add_assoc, ku_ne, ku_same, ne_eq, Nat.reduceEqDiff, reduceCtorEq, Nat.add_eq_left, Nat.left_eq_add, Nat.reduceEqDiff, q10, q_ne, true_or, or_true, pc_k h, pc_r0 h, pc_r1 h, pc_r2 h, (pc_rw13 h).1, c_get (pc_rw13 h) hk]
theorem c_gasOf (h : Pc g P) (hk : 4 * k + m < 256) : hf_rn 44 0 [some (.ref P), some (.int (nI k)), some (.int (nI m))] [] g I J = some (.inl (some (.long (J (P + 16) (4 * k + m)))), g, I, J) := by
  simp only [s44_0, s44_1, s44_4, s44_5, s44_6, s44_7, s44_8, s44_9, s44_12, hf_bd_v, hf_bd_n, hf_iv_i, hf_iv_l, hf_iv_a, hf_iv_n, hf_iv_2, z_lgl, z_lgg, z_lge, z_lgle, z_lgz, Option.getD_some, Option.isSome_some, ↓reduceIte, not_true_eq_false, not_false_eq_true, Option.toList_some, Option.toList_none, List.cons_append, List.nil_append, Nat.reduceAdd, Nat.add_assoc, ku_ne, ku_same, ne_eq, Nat.reduceEqDiff, reduceCtorEq, Nat.add_eq_left, Nat.left_eq_add, Nat.reduceEqDiff, q10, q_ne, true_or, or_true, pc_k h, pc_r0 h, pc_r1 h, pc_r2 h, (pc_rw15 h).1, ix4, c_get (pc_rw15 h) hk]
theorem c_addGas (h : Pc g P) (hk : 4 * k + m < 256) : hf_rn 45 0 [some (.ref P), some (.int (nI k)), some (.int (nI m)), some (.long v), none] [] g I J = some (.inl none, g, I, hf_u J (P + 16) (4 * k + m) (J (P + 16) (4 * k + m) + v)) := by
  simp only [s45_0, s45_1, s45_4, s45_5, s45_6, s45_7, s45_8, s45_9, s45_10, s45_13, hf_bd_v, hf_bd_n, hf_iv_i, hf_iv_l, hf_iv_a, hf_iv_n, hf_iv_2, z_lgl, z_lgg, z_lge, z_lgle, z_lgz, Option.getD_some, Option.isSome_some, ↓reduceIte, not_true_eq_false, not_false_eq_true, Option.toList_some, Option.toList_none, List.cons_append, List.nil_append, Nat.reduceAdd, Nat.add_assoc, ku_ne, ku_same, ne_eq, Nat.reduceEqDiff, reduceCtorEq, Nat.add_eq_left, Nat.left_eq_add, Nat.reduceEqDiff, q10, q_ne, true_or, or_true, pc_k h, pc_r0 h, pc_r1 h, pc_r2 h, (pc_rw15 h).1, ix4, c_add (pc_rw15 h) hk]
/-- much is turned from one kind to another -/
def tuE (E : Nat → Int64) (x y : Nat) (v : Int64) : Nat → Int64 := up (up E x (E x + -v)) y (up E x (E x + -v) y + v)
theorem c_turn (h : Pc g P) (ha : 4 * k + a < 256) (hb : 4 * k + b < 256) : hf_rn 48 0 [some (.ref P), some (.int (nI k)), some (.int (nI a)), some (.int (nI b)), some (.long v), none] [] g I (hf_w J (P + 16) E) = some (.inl none, g, I, hf_w J (P + 16) (tuE E (4 * k + a) (4 * k + b) v)) := by
  simp only [s48_0, s48_1, s48_2, s48_3, s48_5, s48_6, s48_9, s48_10, s48_11, s48_12, s48_14, s48_17, hf_bd_v, hf_bd_n, hf_iv_i, hf_iv_l, hf_iv_a, hf_iv_n, hf_iv_2, z_lgl, z_lgg, z_lge, z_lgle, z_lgz, Option.getD_some, Option.isSome_some, ↓reduceIte, not_true_eq_false, not_false_eq_true, Option.toList_some, Option.toList_none, List.cons_append, List.nil_append, Nat.reduceAdd, Nat.add_assoc, ku_ne, ku_same, ne_eq, Nat.reduceEqDiff, reduceCtorEq, Nat.add_eq_left, Nat.left_eq_add, Nat.reduceEqDiff, q10, q_ne, true_or, or_true, h.1, c_addGas h ha, c_addGas h hb, kw_row, kuw, tuE]
def bgE (H : Nat → Int64) (ev : Int64) (E : Nat → Int64) (t : Nat) : Nat → Int64 := it t (fun j => if j < 256 then 0 else E j) fun k E => up E (4 * k + 0) (E (4 * k + 0) + 100 * (popI (H k &&& (ev ^^^ -1))).toInt64)
theorem c_beginG (h : Pc g P) (hn : I (P + 1) 2 = nI n) (hn2 : n ≤ 64) : hf_rn 46 0 [some (.ref P), some (.long v), none, none] [] g I J = some (.inl none, g, I, hf_w J (P + 16) (bgE (J (P + 12)) v (J (P + 16)) n)) := by
  have hS := pc_sc1 h
  have loop : ∀ (d t : Nat), t + d = n → hf_rn 46 10 [some (.ref P), some (.long v), none, some (.int (nI t))] [] g I (hf_w J (P + 16) (bgE (J (P + 12)) v (J (P + 16)) t)) = some (.inl none, g, I, hf_w J (P + 16) (bgE (J (P + 12)) v (J (P + 16)) n)) := by
    intro d
    induction d with
    | zero =>
      intro t ht
      have e : t = n := by omega
      subst e
      simp only [s46_0, s46_1, s46_4, s46_5, s46_8, s46_9, s46_10, s46_11, s46_12, s46_15, s46_18, s46_21, s46_22, s46_23, s46_24, s46_27, s46_28, s46_31, s46_32, s46_35, s46_36, s46_39, s46_40, s46_41, s46_44, s46_45, s46_46, s46_49, s46_55, hf_bd_v, hf_bd_n, hf_iv_i, hf_iv_l, hf_iv_a, hf_iv_n, hf_iv_2, z_lgl, z_lgg, z_lge, z_lgle, z_lgz, Option.getD_some, Option.isSome_some, ↓reduceIte, not_true_eq_false, not_false_eq_true, Option.toList_some, Option.toList_none, List.cons_append, List.nil_append, Nat.reduceAdd, Nat.add_assoc, ku_ne, ku_same, ne_eq, Nat.reduceEqDiff, reduceCtorEq, Nat.add_eq_left, Nat.left_eq_add, Nat.reduceEqDiff, q10, q_ne, true_or, or_true, pc_k h, pc_r0 h, pc_r1 h, pc_r2 h, hS.1, hn, z_ii (show t < 2147483648 by omega) (show t < 2147483648 by omega), Nat.le_refl]
    | succ d ih =>
      intro t ht
      have hk1 : ¬ n ≤ t := by omega
      have ht64 : t < 64 := by omega
      have hm := c_members (I := I) (J := hf_w J (P + 16) (bgE (J (P + 12)) v (J (P + 16)) t)) hS ht64
      rw [kw_ne (show P + 1 + 11 ≠ P + 16 by omega)] at hm
      have ha := fun v => c_addGas (I := I) (J := hf_w J (P + 16) (bgE (J (P + 12)) v (J (P + 16)) t)) (v := v) h (show 4 * t + 0 < 256 by omega)
      have ha2 := fun M v => c_addGas (I := I) (J := hf_w J (P + 16) M) (v := v) h (show 4 * t + 0 < 256 by omega)
      rw [show nI 0 = 0 from rfl] at ha2
      simp only [s46_10, s46_11, s46_12, s46_15, s46_18, s46_21, s46_22, s46_23, s46_24, s46_27, s46_28, s46_31, s46_32, s46_35, s46_36, s46_39, s46_40, s46_41, s46_44, s46_45, s46_46, s46_49, hf_bd_v, hf_bd_n, hf_iv_i, hf_iv_l, hf_iv_a, hf_iv_n, hf_iv_2, z_lgl, z_lgg, z_lge, z_lgle, z_lgz, Option.getD_some, Option.isSome_some, ↓reduceIte, not_true_eq_false, not_false_eq_true, Option.toList_some, Option.toList_none, List.cons_append, List.nil_append, Nat.reduceAdd, Nat.add_assoc, ku_ne, ku_same, ne_eq, Nat.reduceEqDiff, reduceCtorEq, Nat.add_eq_left, Nat.left_eq_add, Nat.reduceEqDiff, q10, q_ne, true_or, or_true, pc_k h, pc_r0 h, pc_r1 h, pc_r2 h, hS.1, h.1, hn, z_ii (show n < 2147483648 by omega) (show t < 2147483648 by omega), hk1, z_1, hm, c_pop, ha2, kw_row, kuw]
      rw [s46_52]
      exact ih (t + 1) (by omega)
  have e : rwm J (P + 16) 256 (fun _ => 0) = hf_w J (P + 16) (bgE (J (P + 12)) v (J (P + 16)) 0) := rfl
  simp only [s46_0, s46_1, s46_4, s46_5, s46_8, s46_9, hf_bd_v, hf_bd_n, hf_iv_i, hf_iv_l, hf_iv_a, hf_iv_n, hf_iv_2, z_lgl, z_lgg, z_lge, z_lgle, z_lgz, Option.getD_some, Option.isSome_some, ↓reduceIte, not_true_eq_false, not_false_eq_true, Option.toList_some, Option.toList_none, List.cons_append, List.nil_append, Nat.reduceAdd, Nat.add_assoc, ku_ne, ku_same, ne_eq, Nat.reduceEqDiff, reduceCtorEq, Nat.add_eq_left, Nat.left_eq_add, Nat.reduceEqDiff, q10, q_ne, true_or, or_true, pc_k h, pc_r0 h, pc_r1 h, pc_r2 h, (pc_rw15 h).1, c_fil (pc_rw15 h), e]
  exact loop n 0 (by omega)
/-- the three recipes at one halo -/
def urE (co fo wi : Int64) (E : Nat → Int64) (k : Nat) : Nat → Int64 :=
  let E1 := tuE E (4 * k + 0) (4 * k + 1) (co * E (4 * k + 0) / 1000)
  let fd := fo * E1 (4 * k + 1) / 1000
  let E2 := tuE E1 (4 * k + 1) (4 * k + 2) fd
  tuE E2 (4 * k + 1) (4 * k + 3) (if wi * fd / 1000 ≤ E2 (4 * k + 1) then wi * fd / 1000 else E2 (4 * k + 1))
theorem q1000 : ¬ (1000 : Int64) = 0 := by decide
theorem c_useRecipes (h : Pc g P) (hk : k < 64) : hf_rn 47 0 [some (.ref P), some (.int (nI k)), some (.long u), none, some (.long v), none, some (.long w), none, none, none] [] g I (hf_w J (P + 16) E) = some (.inl none, g, I, hf_w J (P + 16) (urE u v w E k)) := by
  have t01 := fun M x => c_turn (I := I) (J := J) (E := M) (v := x) h (show 4 * k + 0 < 256 by omega) (show 4 * k + 1 < 256 by omega)
  have t12 := fun M x => c_turn (I := I) (J := J) (E := M) (v := x) h (show 4 * k + 1 < 256 by omega) (show 4 * k + 2 < 256 by omega)
  have t13 := fun M x => c_turn (I := I) (J := J) (E := M) (v := x) h (show 4 * k + 1 < 256 by omega) (show 4 * k + 3 < 256 by omega)
  have g0 := fun M => c_gasOf (I := I) (J := hf_w J (P + 16) M) h (show 4 * k + 0 < 256 by omega)
  have g1 := fun M => c_gasOf (I := I) (J := hf_w J (P + 16) M) h (show 4 * k + 1 < 256 by omega)
  rw [show nI 0 = 0 from rfl] at t01 g0
  rw [show nI 1 = 1 from rfl] at t01 t12 t13 g1
  rw [show nI 2 = 2 from rfl] at t12
  rw [show nI 3 = 3 from rfl] at t13
  simp only [s47_0, s47_1, s47_2, s47_3, s47_4, s47_5, s47_6, s47_7, s47_8, s47_11, s47_12, s47_15, s47_16, s47_19, s47_21, s47_22, s47_23, s47_24, s47_27, s47_28, s47_31, s47_32, s47_34, s47_35, s47_36, s47_37, s47_38, s47_40, s47_43, s47_44, s47_45, s47_46, s47_47, s47_49, s47_51, s47_52, s47_55, s47_56, s47_57, s47_58, s47_59, s47_62, s47_65, s47_68, hf_bd_v, hf_bd_n, hf_iv_i, hf_iv_l, hf_iv_a, hf_iv_n, hf_iv_2, z_lgl, z_lgg, z_lge, z_lgle, z_lgz, Option.getD_some, Option.isSome_some, ↓reduceIte, not_true_eq_false, not_false_eq_true, Option.toList_some, Option.toList_none, List.cons_append, List.nil_append, Nat.reduceAdd, Nat.add_assoc, ku_ne, ku_same, ne_eq, Nat.reduceEqDiff, reduceCtorEq, Nat.add_eq_left, Nat.left_eq_add, Nat.reduceEqDiff, q10, q_ne, true_or, or_true, h.1, t01, t12, t13, g0, g1, kw_row, q1000, c_minL]
  rfl
end
