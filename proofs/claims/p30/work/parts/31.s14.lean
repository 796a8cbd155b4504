section
variable {l0 l1 l2 l3 l4 l5 l6 l7 l8 l9 l10 l11 l12 l13 l14 l15 l16 l17 : Option Value} {st : List Value} {g : hf_G} {I : hf_I} {J : hf_J}
/-! 146: java/lang/Math.floorDiv(JJ)J -/
theorem hc_146 : hf_cd 146 = cJ9_floorDiv_f86c9 := rfl
theorem hh_146 : hf_hh 146 = [] := rfl
theorem s146_0 {u0 : Int64} : hf_rn 146 0 [some (.long u0), l1, l2, l3, l4, l5] st g I J = hf_rn 146 1 [some (.long u0), l1, l2, l3, l4, l5] (.long u0 :: st) g I J := r_nx (i := .lload_n 0) (len := 1) hc_146 (by decide +kernel) rfl rfl
theorem s146_1 {u0 : Int64} : hf_rn 146 1 [l0, l1, some (.long u0), l3, l4, l5] st g I J = hf_rn 146 2 [l0, l1, some (.long u0), l3, l4, l5] (.long u0 :: st) g I J := r_nx (i := .lload_n 2) (len := 1) hc_146 (by decide +kernel) rfl rfl
theorem s146_2 {u0 u1 : Int64} (h0 : ¬ u0 = 0) : hf_rn 146 2 [l0, l1, l2, l3, l4, l5] (.long u0 :: .long u1 :: st) g I J = hf_rn 146 3 [l0, l1, l2, l3, l4, l5] (.long (u1 / u0) :: st) g I J := r_ldiv hc_146 (by decide +kernel) h0
theorem s146_3 {u0 : Int64} : hf_rn 146 3 [l0, l1, l2, l3, l4, l5] (.long u0 :: st) g I J = hf_rn 146 5 [l0, l1, l2, hf_iv l3, some (.long u0), none] st g I J := r_nx (i := .lstore 4) (len := 2) hc_146 (by decide +kernel) rfl rfl
theorem s146_5 {u0 : Int64} : hf_rn 146 5 [some (.long u0), l1, l2, l3, l4, l5] st g I J = hf_rn 146 6 [some (.long u0), l1, l2, l3, l4, l5] (.long u0 :: st) g I J := r_nx (i := .lload_n 0) (len := 1) hc_146 (by decide +kernel) rfl rfl
theorem s146_6 {u0 : Int64} : hf_rn 146 6 [l0, l1, some (.long u0), l3, l4, l5] st g I J = hf_rn 146 7 [l0, l1, some (.long u0), l3, l4, l5] (.long u0 :: st) g I J := r_nx (i := .lload_n 2) (len := 1) hc_146 (by decide +kernel) rfl rfl
theorem s146_7 {u0 u1 : Int64} : hf_rn 146 7 [l0, l1, l2, l3, l4, l5] (.long u0 :: .long u1 :: st) g I J = hf_rn 146 8 [l0, l1, l2, l3, l4, l5] (.long (u1 ^^^ u0) :: st) g I J := r_nx (i := .lxor) (len := 1) hc_146 (by decide +kernel) rfl rfl
theorem s146_8 : hf_rn 146 8 [l0, l1, l2, l3, l4, l5] st g I J = hf_rn 146 9 [l0, l1, l2, l3, l4, l5] (.long 0 :: st) g I J := r_lconst (n := 0) hc_146 (by decide +kernel) (by decide)
theorem s146_9 {u0 u1 : Int64} : hf_rn 146 9 [l0, l1, l2, l3, l4, l5] (.long u0 :: .long u1 :: st) g I J = hf_rn 146 10 [l0, l1, l2, l3, l4, l5] (.int (lg_cmp u1 u0) :: st) g I J := r_nx (i := .lcmp) (len := 1) hc_146 (by decide +kernel) rfl rfl
theorem s146_10 {u0 : Int32} : hf_rn 146 10 [l0, l1, l2, l3, l4, l5] (.int u0 :: st) g I J = if 0 ≤ u0 then hf_rn 146 27 [l0, l1, l2, l3, l4, l5] st g I J else hf_rn 146 13 [l0, l1, l2, l3, l4, l5] st g I J := r_br (i := .ifCond .ge 17) (len := 3) hc_146 (by decide +kernel) rfl rfl (by decide)
theorem s146_13 {u0 : Int64} : hf_rn 146 13 [l0, l1, l2, l3, some (.long u0), l5] st g I J = hf_rn 146 15 [l0, l1, l2, l3, some (.long u0), l5] (.long u0 :: st) g I J := r_nx (i := .lload 4) (len := 2) hc_146 (by decide +kernel) rfl rfl
theorem s146_15 {u0 : Int64} : hf_rn 146 15 [l0, l1, some (.long u0), l3, l4, l5] st g I J = hf_rn 146 16 [l0, l1, some (.long u0), l3, l4, l5] (.long u0 :: st) g I J := r_nx (i := .lload_n 2) (len := 1) hc_146 (by decide +kernel) rfl rfl
theorem s146_16 {u0 u1 : Int64} : hf_rn 146 16 [l0, l1, l2, l3, l4, l5] (.long u0 :: .long u1 :: st) g I J = hf_rn 146 17 [l0, l1, l2, l3, l4, l5] (.long (u1 * u0) :: st) g I J := r_nx (i := .lmul) (len := 1) hc_146 (by decide +kernel) rfl rfl
theorem s146_17 {u0 : Int64} : hf_rn 146 17 [some (.long u0), l1, l2, l3, l4, l5] st g I J = hf_rn 146 18 [some (.long u0), l1, l2, l3, l4, l5] (.long u0 :: st) g I J := r_nx (i := .lload_n 0) (len := 1) hc_146 (by decide +kernel) rfl rfl
theorem s146_18 {u0 u1 : Int64} : hf_rn 146 18 [l0, l1, l2, l3, l4, l5] (.long u0 :: .long u1 :: st) g I J = hf_rn 146 19 [l0, l1, l2, l3, l4, l5] (.int (lg_cmp u1 u0) :: st) g I J := r_nx (i := .lcmp) (len := 1) hc_146 (by decide +kernel) rfl rfl
theorem s146_19 {u0 : Int32} : hf_rn 146 19 [l0, l1, l2, l3, l4, l5] (.int u0 :: st) g I J = if u0 = 0 then hf_rn 146 27 [l0, l1, l2, l3, l4, l5] st g I J else hf_rn 146 22 [l0, l1, l2, l3, l4, l5] st g I J := r_br (i := .ifCond .eq 8) (len := 3) hc_146 (by decide +kernel) rfl rfl (by decide)
theorem s146_22 {u0 : Int64} : hf_rn 146 22 [l0, l1, l2, l3, some (.long u0), l5] st g I J = hf_rn 146 24 [l0, l1, l2, l3, some (.long u0), l5] (.long u0 :: st) g I J := r_nx (i := .lload 4) (len := 2) hc_146 (by decide +kernel) rfl rfl
theorem s146_24 : hf_rn 146 24 [l0, l1, l2, l3, l4, l5] st g I J = hf_rn 146 25 [l0, l1, l2, l3, l4, l5] (.long 1 :: st) g I J := r_lconst (n := 1) hc_146 (by decide +kernel) (by decide)
theorem s146_25 {u0 u1 : Int64} : hf_rn 146 25 [l0, l1, l2, l3, l4, l5] (.long u0 :: .long u1 :: st) g I J = hf_rn 146 26 [l0, l1, l2, l3, l4, l5] (.long (u1 - u0) :: st) g I J := r_nx (i := .lsub) (len := 1) hc_146 (by decide +kernel) rfl rfl
theorem s146_26 {u0 : Int64} : hf_rn 146 26 [l0, l1, l2, l3, l4, l5] [.long u0] g I J = some (.inl (some (.long u0)), g, I, J) := r_ret1 hc_146 (by decide +kernel) (by decide +kernel)
theorem s146_27 {u0 : Int64} : hf_rn 146 27 [l0, l1, l2, l3, some (.long u0), l5] st g I J = hf_rn 146 29 [l0, l1, l2, l3, some (.long u0), l5] (.long u0 :: st) g I J := r_nx (i := .lload 4) (len := 2) hc_146 (by decide +kernel) rfl rfl
theorem s146_29 {u0 : Int64} : hf_rn 146 29 [l0, l1, l2, l3, l4, l5] [.long u0] g I J = some (.inl (some (.long u0)), g, I, J) := r_ret1 hc_146 (by decide +kernel) (by decide +kernel)
/-! 147: java/lang/Math.floorMod(JJ)J -/
theorem hc_147 : hf_cd 147 = cJ9_floorMod_f86c9 := rfl
theorem hh_147 : hf_hh 147 = [] := rfl
theorem s147_0 {u0 : Int64} : hf_rn 147 0 [some (.long u0), l1, l2, l3, l4, l5] st g I J = hf_rn 147 1 [some (.long u0), l1, l2, l3, l4, l5] (.long u0 :: st) g I J := r_nx (i := .lload_n 0) (len := 1) hc_147 (by decide +kernel) rfl rfl
theorem s147_1 {u0 : Int64} : hf_rn 147 1 [l0, l1, some (.long u0), l3, l4, l5] st g I J = hf_rn 147 2 [l0, l1, some (.long u0), l3, l4, l5] (.long u0 :: st) g I J := r_nx (i := .lload_n 2) (len := 1) hc_147 (by decide +kernel) rfl rfl
theorem s147_2 {u0 u1 : Int64} (h0 : ¬ u0 = 0) : hf_rn 147 2 [l0, l1, l2, l3, l4, l5] (.long u0 :: .long u1 :: st) g I J = hf_rn 147 3 [l0, l1, l2, l3, l4, l5] (.long (u1 - u1 / u0 * u0) :: st) g I J := r_lrem hc_147 (by decide +kernel) h0
theorem s147_3 {u0 : Int64} : hf_rn 147 3 [l0, l1, l2, l3, l4, l5] (.long u0 :: st) g I J = hf_rn 147 5 [l0, l1, l2, hf_iv l3, some (.long u0), none] st g I J := r_nx (i := .lstore 4) (len := 2) hc_147 (by decide +kernel) rfl rfl
theorem s147_5 {u0 : Int64} : hf_rn 147 5 [some (.long u0), l1, l2, l3, l4, l5] st g I J = hf_rn 147 6 [some (.long u0), l1, l2, l3, l4, l5] (.long u0 :: st) g I J := r_nx (i := .lload_n 0) (len := 1) hc_147 (by decide +kernel) rfl rfl
theorem s147_6 {u0 : Int64} : hf_rn 147 6 [l0, l1, some (.long u0), l3, l4, l5] st g I J = hf_rn 147 7 [l0, l1, some (.long u0), l3, l4, l5] (.long u0 :: st) g I J := r_nx (i := .lload_n 2) (len := 1) hc_147 (by decide +kernel) rfl rfl
theorem s147_7 {u0 u1 : Int64} : hf_rn 147 7 [l0, l1, l2, l3, l4, l5] (.long u0 :: .long u1 :: st) g I J = hf_rn 147 8 [l0, l1, l2, l3, l4, l5] (.long (u1 ^^^ u0) :: st) g I J := r_nx (i := .lxor) (len := 1) hc_147 (by decide +kernel) rfl rfl
theorem s147_8 : hf_rn 147 8 [l0, l1, l2, l3, l4, l5] st g I J = hf_rn 147 9 [l0, l1, l2, l3, l4, l5] (.long 0 :: st) g I J := r_lconst (n := 0) hc_147 (by decide +kernel) (by decide)
theorem s147_9 {u0 u1 : Int64} : hf_rn 147 9 [l0, l1, l2, l3, l4, l5] (.long u0 :: .long u1 :: st) g I J = hf_rn 147 10 [l0, l1, l2, l3, l4, l5] (.int (lg_cmp u1 u0) :: st) g I J := r_nx (i := .lcmp) (len := 1) hc_147 (by decide +kernel) rfl rfl
theorem s147_10 {u0 : Int32} : hf_rn 147 10 [l0, l1, l2, l3, l4, l5] (.int u0 :: st) g I J = if 0 ≤ u0 then hf_rn 147 25 [l0, l1, l2, l3, l4, l5] st g I J else hf_rn 147 13 [l0, l1, l2, l3, l4, l5] st g I J := r_br (i := .ifCond .ge 15) (len := 3) hc_147 (by decide +kernel) rfl rfl (by decide)
theorem s147_13 {u0 : Int64} : hf_rn 147 13 [l0, l1, l2, l3, some (.long u0), l5] st g I J = hf_rn 147 15 [l0, l1, l2, l3, some (.long u0), l5] (.long u0 :: st) g I J := r_nx (i := .lload 4) (len := 2) hc_147 (by decide +kernel) rfl rfl
theorem s147_15 : hf_rn 147 15 [l0, l1, l2, l3, l4, l5] st g I J = hf_rn 147 16 [l0, l1, l2, l3, l4, l5] (.long 0 :: st) g I J := r_lconst (n := 0) hc_147 (by decide +kernel) (by decide)
theorem s147_16 {u0 u1 : Int64} : hf_rn 147 16 [l0, l1, l2, l3, l4, l5] (.long u0 :: .long u1 :: st) g I J = hf_rn 147 17 [l0, l1, l2, l3, l4, l5] (.int (lg_cmp u1 u0) :: st) g I J := r_nx (i := .lcmp) (len := 1) hc_147 (by decide +kernel) rfl rfl
theorem s147_17 {u0 : Int32} : hf_rn 147 17 [l0, l1, l2, l3, l4, l5] (.int u0 :: st) g I J = if u0 = 0 then hf_rn 147 25 [l0, l1, l2, l3, l4, l5] st g I J else hf_rn 147 20 [l0, l1, l2, l3, l4, l5] st g I J := r_br (i := .ifCond .eq 8) (len := 3) hc_147 (by decide +kernel) rfl rfl (by decide)
theorem s147_20 {u0 : Int64} : hf_rn 147 20 [l0, l1, l2, l3, some (.long u0), l5] st g I J = hf_rn 147 22 [l0, l1, l2, l3, some (.long u0), l5] (.long u0 :: st) g I J := r_nx (i := .lload 4) (len := 2) hc_147 (by decide +kernel) rfl rfl
theorem s147_22 {u0 : Int64} : hf_rn 147 22 [l0, l1, some (.long u0), l3, l4, l5] st g I J = hf_rn 147 23 [l0, l1, some (.long u0), l3, l4, l5] (.long u0 :: st) g I J := r_nx (i := .lload_n 2) (len := 1) hc_147 (by decide +kernel) rfl rfl
theorem s147_23 {u0 u1 : Int64} : hf_rn 147 23 [l0, l1, l2, l3, l4, l5] (.long u0 :: .long u1 :: st) g I J = hf_rn 147 24 [l0, l1, l2, l3, l4, l5] (.long (u1 + u0) :: st) g I J := r_nx (i := .ladd) (len := 1) hc_147 (by decide +kernel) rfl rfl
theorem s147_24 {u0 : Int64} : hf_rn 147 24 [l0, l1, l2, l3, l4, l5] [.long u0] g I J = some (.inl (some (.long u0)), g, I, J) := r_ret1 hc_147 (by decide +kernel) (by decide +kernel)
theorem s147_25 {u0 : Int64} : hf_rn 147 25 [l0, l1, l2, l3, some (.long u0), l5] st g I J = hf_rn 147 27 [l0, l1, l2, l3, some (.long u0), l5] (.long u0 :: st) g I J := r_nx (i := .lload 4) (len := 2) hc_147 (by decide +kernel) rfl rfl
theorem s147_27 {u0 : Int64} : hf_rn 147 27 [l0, l1, l2, l3, l4, l5] [.long u0] g I J = some (.inl (some (.long u0)), g, I, J) := r_ret1 hc_147 (by decide +kernel) (by decide +kernel)
/-! 148: java/lang/Math.abs(J)J -/
theorem hc_148 : hf_cd 148 = cJ9_abs_067f4 := rfl
theorem hh_148 : hf_hh 148 = [] := rfl
theorem s148_0 {u0 : Int64} : hf_rn 148 0 [some (.long u0), l1] st g I J = hf_rn 148 1 [some (.long u0), l1] (.long u0 :: st) g I J := r_nx (i := .lload_n 0) (len := 1) hc_148 (by decide +kernel) rfl rfl
theorem s148_1 : hf_rn 148 1 [l0, l1] st g I J = hf_rn 148 2 [l0, l1] (.long 0 :: st) g I J := r_lconst (n := 0) hc_148 (by decide +kernel) (by decide)
theorem s148_2 {u0 u1 : Int64} : hf_rn 148 2 [l0, l1] (.long u0 :: .long u1 :: st) g I J = hf_rn 148 3 [l0, l1] (.int (lg_cmp u1 u0) :: st) g I J := r_nx (i := .lcmp) (len := 1) hc_148 (by decide +kernel) rfl rfl
theorem s148_3 {u0 : Int32} : hf_rn 148 3 [l0, l1] (.int u0 :: st) g I J = if 0 ≤ u0 then hf_rn 148 11 [l0, l1] st g I J else hf_rn 148 6 [l0, l1] st g I J := r_br (i := .ifCond .ge 8) (len := 3) hc_148 (by decide +kernel) rfl rfl (by decide)
theorem s148_6 {u0 : Int64} : hf_rn 148 6 [some (.long u0), l1] st g I J = hf_rn 148 7 [some (.long u0), l1] (.long u0 :: st) g I J := r_nx (i := .lload_n 0) (len := 1) hc_148 (by decide +kernel) rfl rfl
theorem s148_7 {u0 : Int64} : hf_rn 148 7 [l0, l1] (.long u0 :: st) g I J = hf_rn 148 8 [l0, l1] (.long (-u0) :: st) g I J := r_nx (i := .lneg) (len := 1) hc_148 (by decide +kernel) rfl rfl
theorem s148_8 : hf_rn 148 8 [l0, l1] st g I J = hf_rn 148 12 [l0, l1] st g I J := r_go (i := .goto 4) (len := 3) hc_148 (by decide +kernel) rfl rfl (by decide)
theorem s148_11 {u0 : Int64} : hf_rn 148 11 [some (.long u0), l1] st g I J = hf_rn 148 12 [some (.long u0), l1] (.long u0 :: st) g I J := r_nx (i := .lload_n 0) (len := 1) hc_148 (by decide +kernel) rfl rfl
theorem s148_12 {u0 : Int64} : hf_rn 148 12 [l0, l1] [.long u0] g I J = some (.inl (some (.long u0)), g, I, J) := r_ret1 hc_148 (by decide +kernel) (by decide +kernel)
/-! 149: java/lang/Math.max(II)I -/
theorem hc_149 : hf_cd 149 = cJ9_max_7cf53 := rfl
theorem hh_149 : hf_hh 149 = [] := rfl
theorem s149_0 {u0 : Int32} : hf_rn 149 0 [some (.int u0), l1] st g I J = hf_rn 149 1 [some (.int u0), l1] (.int u0 :: st) g I J := r_nx (i := .iload_n 0) (len := 1) hc_149 (by decide +kernel) rfl rfl
theorem s149_1 {u0 : Int32} : hf_rn 149 1 [l0, some (.int u0)] st g I J = hf_rn 149 2 [l0, some (.int u0)] (.int u0 :: st) g I J := r_nx (i := .iload_n 1) (len := 1) hc_149 (by decide +kernel) rfl rfl
theorem s149_2 {u0 u1 : Int32} : hf_rn 149 2 [l0, l1] (.int u0 :: .int u1 :: st) g I J = if u1 < u0 then hf_rn 149 9 [l0, l1] st g I J else hf_rn 149 5 [l0, l1] st g I J := r_br (i := .if_icmp .lt 7) (len := 3) hc_149 (by decide +kernel) rfl rfl (by decide)
theorem s149_5 {u0 : Int32} : hf_rn 149 5 [some (.int u0), l1] st g I J = hf_rn 149 6 [some (.int u0), l1] (.int u0 :: st) g I J := r_nx (i := .iload_n 0) (len := 1) hc_149 (by decide +kernel) rfl rfl
theorem s149_6 : hf_rn 149 6 [l0, l1] st g I J = hf_rn 149 10 [l0, l1] st g I J := r_go (i := .goto 4) (len := 3) hc_149 (by decide +kernel) rfl rfl (by decide)
theorem s149_9 {u0 : Int32} : hf_rn 149 9 [l0, some (.int u0)] st g I J = hf_rn 149 10 [l0, some (.int u0)] (.int u0 :: st) g I J := r_nx (i := .iload_n 1) (len := 1) hc_149 (by decide +kernel) rfl rfl
theorem s149_10 {u0 : Int32} : hf_rn 149 10 [l0, l1] [.int u0] g I J = some (.inl (some (.int u0)), g, I, J) := r_ret0 hc_149 (by decide +kernel) (by decide +kernel)
/-! 150: java/lang/Math.min(II)I -/
theorem hc_150 : hf_cd 150 = cJ9_min_7cf53 := rfl
theorem hh_150 : hf_hh 150 = [] := rfl
theorem s150_0 {u0 : Int32} : hf_rn 150 0 [some (.int u0), l1] st g I J = hf_rn 150 1 [some (.int u0), l1] (.int u0 :: st) g I J := r_nx (i := .iload_n 0) (len := 1) hc_150 (by decide +kernel) rfl rfl
theorem s150_1 {u0 : Int32} : hf_rn 150 1 [l0, some (.int u0)] st g I J = hf_rn 150 2 [l0, some (.int u0)] (.int u0 :: st) g I J := r_nx (i := .iload_n 1) (len := 1) hc_150 (by decide +kernel) rfl rfl
theorem s150_2 {u0 u1 : Int32} : hf_rn 150 2 [l0, l1] (.int u0 :: .int u1 :: st) g I J = if u0 < u1 then hf_rn 150 9 [l0, l1] st g I J else hf_rn 150 5 [l0, l1] st g I J := r_br (i := .if_icmp .gt 7) (len := 3) hc_150 (by decide +kernel) rfl rfl (by decide)
theorem s150_5 {u0 : Int32} : hf_rn 150 5 [some (.int u0), l1] st g I J = hf_rn 150 6 [some (.int u0), l1] (.int u0 :: st) g I J := r_nx (i := .iload_n 0) (len := 1) hc_150 (by decide +kernel) rfl rfl
theorem s150_6 : hf_rn 150 6 [l0, l1] st g I J = hf_rn 150 10 [l0, l1] st g I J := r_go (i := .goto 4) (len := 3) hc_150 (by decide +kernel) rfl rfl (by decide)
theorem s150_9 {u0 : Int32} : hf_rn 150 9 [l0, some (.int u0)] st g I J = hf_rn 150 10 [l0, some (.int u0)] (.int u0 :: st) g I J := r_nx (i := .iload_n 1) (len := 1) hc_150 (by decide +kernel) rfl rfl
theorem s150_10 {u0 : Int32} : hf_rn 150 10 [l0, l1] [.int u0] g I J = some (.inl (some (.int u0)), g, I, J) := r_ret0 hc_150 (by decide +kernel) (by decide +kernel)
/-! 151: java/lang/Math.min(JJ)J -/
theorem hc_151 : hf_cd 151 = cJ9_min_f86c9 := rfl
theorem hh_151 : hf_hh 151 = [] := rfl
theorem s151_0 {u0 : Int64} : hf_rn 151 0 [some (.long u0), l1, l2, l3] st g I J = hf_rn 151 1 [some (.long u0), l1, l2, l3] (.long u0 :: st) g I J := r_nx (i := .lload_n 0) (len := 1) hc_151 (by decide +kernel) rfl rfl
theorem s151_1 {u0 : Int64} : hf_rn 151 1 [l0, l1, some (.long u0), l3] st g I J = hf_rn 151 2 [l0, l1, some (.long u0), l3] (.long u0 :: st) g I J := r_nx (i := .lload_n 2) (len := 1) hc_151 (by decide +kernel) rfl rfl
theorem s151_2 {u0 u1 : Int64} : hf_rn 151 2 [l0, l1, l2, l3] (.long u0 :: .long u1 :: st) g I J = hf_rn 151 3 [l0, l1, l2, l3] (.int (lg_cmp u1 u0) :: st) g I J := r_nx (i := .lcmp) (len := 1) hc_151 (by decide +kernel) rfl rfl
theorem s151_3 {u0 : Int32} : hf_rn 151 3 [l0, l1, l2, l3] (.int u0 :: st) g I J = if 0 < u0 then hf_rn 151 10 [l0, l1, l2, l3] st g I J else hf_rn 151 6 [l0, l1, l2, l3] st g I J := r_br (i := .ifCond .gt 7) (len := 3) hc_151 (by decide +kernel) rfl rfl (by decide)
theorem s151_6 {u0 : Int64} : hf_rn 151 6 [some (.long u0), l1, l2, l3] st g I J = hf_rn 151 7 [some (.long u0), l1, l2, l3] (.long u0 :: st) g I J := r_nx (i := .lload_n 0) (len := 1) hc_151 (by decide +kernel) rfl rfl
theorem s151_7 : hf_rn 151 7 [l0, l1, l2, l3] st g I J = hf_rn 151 11 [l0, l1, l2, l3] st g I J := r_go (i := .goto 4) (len := 3) hc_151 (by decide +kernel) rfl rfl (by decide)
theorem s151_10 {u0 : Int64} : hf_rn 151 10 [l0, l1, some (.long u0), l3] st g I J = hf_rn 151 11 [l0, l1, some (.long u0), l3] (.long u0 :: st) g I J := r_nx (i := .lload_n 2) (len := 1) hc_151 (by decide +kernel) rfl rfl
theorem s151_11 {u0 : Int64} : hf_rn 151 11 [l0, l1, l2, l3] [.long u0] g I J = some (.inl (some (.long u0)), g, I, J) := r_ret1 hc_151 (by decide +kernel) (by decide +kernel)
end
