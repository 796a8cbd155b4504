/-! THE FACE: universe -/
section
variable {g : hf_G} {I : hf_I} {J : hf_J} {S a b c k m n s p q : Nat} {u v w : Int64} {i j x y : Int32}
def loJ (J : hf_J) (s : Nat) : hf_J := rwm (rwm (rwm2 J 4 6 (s * s) (latX s) (latY s)) 8 64 (fun _ => 0)) 10 64 (fun _ => 0)
def loI (I : hf_I) (s : Nat) : hf_I := hf_u (hf_u (hf_u (hf_u I 2 4 (nI s)) 2 5 (nI (s * s))) 0 6 1) 13 3 0
theorem c_begin (h : Hx g) (hA : Al g) (hs : s ≤ 8) : hf_rn 135 0 [some (.ref 0), some (.int (nI s))] [] g I J = some (.inl none, g, loI I s, loJ J s) := by
  have hS : Sc g 1 := hx_sc1 h
  have hG : Gr g 2 := sc_gr1 hS
  have f : hf_r g 1 0 = some 2 := sc_r0 hS
  have hl := c_layOut (I := I) (J := J) hG hs
  simp only [s135_0, s135_1, s135_4, s135_7, s135_8, s135_11, s135_12, s135_13, s135_16, s135_17, s135_20, s135_23, hf_bd_v, hf_bd_n, hf_iv_i, hf_iv_l, hf_iv_a, hf_iv_n, hf_iv_2, z_lgl, z_lgg, z_lge, z_lgle, z_lgz, Option.getD_some, Option.isSome_some, ↓reduceIte, not_true_eq_false, not_false_eq_true, Option.toList_some, Option.toList_none, List.cons_append, List.nil_append, Nat.reduceAdd, Nat.add_assoc, ku_ne, ku_same, ne_eq, Nat.reduceEqDiff, reduceCtorEq, Nat.add_eq_left, Nat.left_eq_add, Nat.reduceEqDiff, q10, q_ne, true_or, or_true, hx_k h, hx_r0 h, hx_r1 h, hx_r2 h, hx_r3 h, hx_r4 h, hx_r5 h, hS.1, hG.1, hA.1, f, hl, c_clear hA]
  rfl
theorem c_universe (h : Hx g) (hA : Al g) (hn : hf_n g < 1000000) (h2 : 2 ≤ s) (hs : s ≤ 8) : hf_rn 109 0 [some (.ref 0), some (.int (nI s))] [] g I J = some (.inl (some (.int (nI (s * s)))), g, loI I s, loJ J s) := by
  have hS : Sc g 1 := hx_sc1 h
  have hG : Gr g 2 := sc_gr1 hS
  have f : hf_r g 1 0 = some 2 := sc_r0 hS
  have r1 : (2 : Int32) ≤ nI s ∧ nI s ≤ 8 := ⟨by rw [show (2 : Int32) = nI 2 from rfl, z_ii (by decide) (by omega)]; exact h2, by rw [show (8 : Int32) = nI 8 from rfl, z_ii (by omega) (by decide)]; exact hs⟩
  have hc : loI I s 2 5 = nI (s * s) := by rw [loI, ku_ne (by decide), ku_ne (by decide), ku_same]
  simp only [s109_0, s109_1, s109_2, s109_4, s109_7, s109_8, s109_9, s109_12, s109_13, s109_16, s109_19, s109_22, hf_bd_v, hf_bd_n, hf_iv_i, hf_iv_l, hf_iv_a, hf_iv_n, hf_iv_2, z_lgl, z_lgg, z_lge, z_lgle, z_lgz, Option.getD_some, Option.isSome_some, ↓reduceIte, not_true_eq_false, not_false_eq_true, Option.toList_some, Option.toList_none, List.cons_append, List.nil_append, Nat.reduceAdd, Nat.add_assoc, ku_ne, ku_same, ne_eq, Nat.reduceEqDiff, reduceCtorEq, Nat.add_eq_left, Nat.left_eq_add, Nat.reduceEqDiff, q10, q_ne, true_or, or_true, hx_k h, hx_r0 h, hx_r1 h, hx_r2 h, hx_r3 h, hx_r4 h, hx_r5 h, hS.1, hG.1, h.1, f, c_needRange hn, if_pos r1, c_begin h hA hs, hc]
theorem c_universeX (h : Hx g) (hn : hf_n g < 1000000) (h1 : ¬ (2 ≤ i ∧ i ≤ 8)) : hf_rn 109 0 [some (.ref 0), some (.int i)] [] g I J = some (.inr 1, hf_th g, I, J) := by
  simp only [s109_0, s109_1, s109_2, s109_4, s109_7, s109_8, s109_9, s109_12, s109_13, s109_16, s109_19, s109_22, hf_bd_v, hf_bd_n, hf_iv_i, hf_iv_l, hf_iv_a, hf_iv_n, hf_iv_2, z_lgl, z_lgg, z_lge, z_lgle, z_lgz, Option.getD_some, Option.isSome_some, ↓reduceIte, not_true_eq_false, not_false_eq_true, Option.toList_some, Option.toList_none, List.cons_append, List.nil_append, Nat.reduceAdd, Nat.add_assoc, ku_ne, ku_same, ne_eq, Nat.reduceEqDiff, reduceCtorEq, Nat.add_eq_left, Nat.left_eq_add, Nat.reduceEqDiff, q10, q_ne, true_or, or_true, hx_k h, hx_r0 h, hx_r1 h, hx_r2 h, hx_r3 h, hx_r4 h, hx_r5 h, c_needRange hn, if_neg h1, hf_bdx hh_109]
end
