section
variable {l0 l1 l2 l3 l4 l5 l6 l7 l8 l9 l10 l11 l12 l13 l14 l15 l16 l17 : Option Value} {st : List Value} {g : hf_G} {I : hf_I} {J : hf_J}
/-! 225: java/lang/Math.floorDiv(JJ)J -/
theorem hc_225 : hf_cd 225 = cJ9_floorDiv_f86c9 := rfl
theorem hh_225 : hf_hh 225 = [] := rfl
theorem s225_0 {u0 : Int64} : hf_rn 225 0 [some (.long u0), l1, l2, l3, l4, l5] st g I J = hf_rn 225 1 [some (.long u0), l1, l2, l3, l4, l5] (.long u0 :: st) g I J := r_nx (i := .lload_n 0) (len := 1) hc_225 (by decide +kernel) rfl rfl
theorem s225_1 {u0 : Int64} : hf_rn 225 1 [l0, l1, some (.long u0), l3, l4, l5] st g I J = hf_rn 225 2 [l0, l1, some (.long u0), l3, l4, l5] (.long u0 :: st) g I J := r_nx (i := .lload_n 2) (len := 1) hc_225 (by decide +kernel) rfl rfl
theorem s225_2 {u0 u1 : Int64} (h0 : ¬ u0 = 0) : hf_rn 225 2 [l0, l1, l2, l3, l4, l5] (.long u0 :: .long u1 :: st) g I J = hf_rn 225 3 [l0, l1, l2, l3, l4, l5] (.long (u1 / u0) :: st) g I J := r_ldiv hc_225 (by decide +kernel) h0
theorem s225_3 {u0 : Int64} : hf_rn 225 3 [l0, l1, l2, l3, l4, l5] (.long u0 :: st) g I J = hf_rn 225 5 [l0, l1, l2, hf_iv l3, some (.long u0), none] st g I J := r_nx (i := .lstore 4) (len := 2) hc_225 (by decide +kernel) rfl rfl
theorem s225_5 {u0 : Int64} : hf_rn 225 5 [some (.long u0), l1, l2, l3, l4, l5] st g I J = hf_rn 225 6 [some (.long u0), l1, l2, l3, l4, l5] (.long u0 :: st) g I J := r_nx (i := .lload_n 0) (len := 1) hc_225 (by decide +kernel) rfl rfl
theorem s225_6 {u0 : Int64} : hf_rn 225 6 [l0, l1, some (.long u0), l3, l4, l5] st g I J = hf_rn 225 7 [l0, l1, some (.long u0), l3, l4, l5] (.long u0 :: st) g I J := r_nx (i := .lload_n 2) (len := 1) hc_225 (by decide +kernel) rfl rfl
theorem s225_7 {u0 u1 : Int64} : hf_rn 225 7 [l0, l1, l2, l3, l4, l5] (.long u0 :: .long u1 :: st) g I J = hf_rn 225 8 [l0, l1, l2, l3, l4, l5] (.long (u1 ^^^ u0) :: st) g I J := r_nx (i := .lxor) (len := 1) hc_225 (by decide +kernel) rfl rfl
theorem s225_8 : hf_rn 225 8 [l0, l1, l2, l3, l4, l5] st g I J = hf_rn 225 9 [l0, l1, l2, l3, l4, l5] (.long 0 :: st) g I J := r_lconst (n := 0) hc_225 (by decide +kernel) (by decide)
theorem s225_9 {u0 u1 : Int64} : hf_rn 225 9 [l0, l1, l2, l3, l4, l5] (.long u0 :: .long u1 :: st) g I J = hf_rn 225 10 [l0, l1, l2, l3, l4, l5] (.int (lg_cmp u1 u0) :: st) g I J := r_nx (i := .lcmp) (len := 1) hc_225 (by decide +kernel) rfl rfl
theorem s225_10 {u0 : Int32} : hf_rn 225 10 [l0, l1, l2, l3, l4, l5] (.int u0 :: st) g I J = if 0 ≤ u0 then hf_rn 225 27 [l0, l1, l2, l3, l4, l5] st g I J else hf_rn 225 13 [l0, l1, l2, l3, l4, l5] st g I J := r_br (i := .ifCond .ge 17) (len := 3) hc_225 (by decide +kernel) rfl rfl (by decide)
theorem s225_13 {u0 : Int64} : hf_rn 225 13 [l0, l1, l2, l3, some (.long u0), l5] st g I J = hf_rn 225 15 [l0, l1, l2, l3, some (.long u0), l5] (.long u0 :: st) g I J := r_nx (i := .lload 4) (len := 2) hc_225 (by decide +kernel) rfl rfl
theorem s225_15 {u0 : Int64} : hf_rn 225 15 [l0, l1, some (.long u0), l3, l4, l5] st g I J = hf_rn 225 16 [l0, l1, some (.long u0), l3, l4, l5] (.long u0 :: st) g I J := r_nx (i := .lload_n 2) (len := 1) hc_225 (by decide +kernel) rfl rfl
theorem s225_16 {u0 u1 : Int64} : hf_rn 225 16 [l0, l1, l2, l3, l4, l5] (.long u0 :: .long u1 :: st) g I J = hf_rn 225 17 [l0, l1, l2, l3, l4, l5] (.long (u1 * u0) :: st) g I J := r_nx (i := .lmul) (len := 1) hc_225 (by decide +kernel) rfl rfl
theorem s225_17 {u0 : Int64} : hf_rn 225 17 [some (.long u0), l1, l2, l3, l4, l5] st g I J = hf_rn 225 18 [some (.long u0), l1, l2, l3, l4, l5] (.long u0 :: st) g I J := r_nx (i := .lload_n 0) (len := 1) hc_225 (by decide +kernel) rfl rfl
theorem s225_18 {u0 u1 : Int64} : hf_rn 225 18 [l0, l1, l2, l3, l4, l5] (.long u0 :: .long u1 :: st) g I J = hf_rn 225 19 [l0, l1, l2, l3, l4, l5] (.int (lg_cmp u1 u0) :: st) g I J := r_nx (i := .lcmp) (len := 1) hc_225 (by decide +kernel) rfl rfl
theorem s225_19 {u0 : Int32} : hf_rn 225 19 [l0, l1, l2, l3, l4, l5] (.int u0 :: st) g I J = if u0 = 0 then hf_rn 225 27 [l0, l1, l2, l3, l4, l5] st g I J else hf_rn 225 22 [l0, l1, l2, l3, l4, l5] st g I J := r_br (i := .ifCond .eq 8) (len := 3) hc_225 (by decide +kernel) rfl rfl (by decide)
theorem s225_22 {u0 : Int64} : hf_rn 225 22 [l0, l1, l2, l3, some (.long u0), l5] st g I J = hf_rn 225 24 [l0, l1, l2, l3, some (.long u0), l5] (.long u0 :: st) g I J := r_nx (i := .lload 4) (len := 2) hc_225 (by decide +kernel) rfl rfl
theorem s225_24 : hf_rn 225 24 [l0, l1, l2, l3, l4, l5] st g I J = hf_rn 225 25 [l0, l1, l2, l3, l4, l5] (.long 1 :: st) g I J := r_lconst (n := 1) hc_225 (by decide +kernel) (by decide)
theorem s225_25 {u0 u1 : Int64} : hf_rn 225 25 [l0, l1, l2, l3, l4, l5] (.long u0 :: .long u1 :: st) g I J = hf_rn 225 26 [l0, l1, l2, l3, l4, l5] (.long (u1 - u0) :: st) g I J := r_nx (i := .lsub) (len := 1) hc_225 (by decide +kernel) rfl rfl
theorem s225_26 {u0 : Int64} : hf_rn 225 26 [l0, l1, l2, l3, l4, l5] [.long u0] g I J = some (.inl (some (.long u0)), g, I, J) := r_ret1 hc_225 (by decide +kernel) (by decide +kernel)
theorem s225_27 {u0 : Int64} : hf_rn 225 27 [l0, l1, l2, l3, some (.long u0), l5] st g I J = hf_rn 225 29 [l0, l1, l2, l3, some (.long u0), l5] (.long u0 :: st) g I J := r_nx (i := .lload 4) (len := 2) hc_225 (by decide +kernel) rfl rfl
theorem s225_29 {u0 : Int64} : hf_rn 225 29 [l0, l1, l2, l3, l4, l5] [.long u0] g I J = some (.inl (some (.long u0)), g, I, J) := r_ret1 hc_225 (by decide +kernel) (by decide +kernel)
/-! 226: java/lang/Math.floorMod(JJ)J -/
theorem hc_226 : hf_cd 226 = cJ9_floorMod_f86c9 := rfl
theorem hh_226 : hf_hh 226 = [] := rfl
theorem s226_0 {u0 : Int64} : hf_rn 226 0 [some (.long u0), l1, l2, l3, l4, l5] st g I J = hf_rn 226 1 [some (.long u0), l1, l2, l3, l4, l5] (.long u0 :: st) g I J := r_nx (i := .lload_n 0) (len := 1) hc_226 (by decide +kernel) rfl rfl
theorem s226_1 {u0 : Int64} : hf_rn 226 1 [l0, l1, some (.long u0), l3, l4, l5] st g I J = hf_rn 226 2 [l0, l1, some (.long u0), l3, l4, l5] (.long u0 :: st) g I J := r_nx (i := .lload_n 2) (len := 1) hc_226 (by decide +kernel) rfl rfl
theorem s226_2 {u0 u1 : Int64} (h0 : ¬ u0 = 0) : hf_rn 226 2 [l0, l1, l2, l3, l4, l5] (.long u0 :: .long u1 :: st) g I J = hf_rn 226 3 [l0, l1, l2, l3, l4, l5] (.long (u1 - u1 / u0 * u0) :: st) g I J := r_lrem hc_226 (by decide +kernel) h0
theorem s226_3 {u0 : Int64} : hf_rn 226 3 [l0, l1, l2, l3, l4, l5] (.long u0 :: st) g I J = hf_rn 226 5 [l0, l1, l2, hf_iv l3, some (.long u0), none] st g I J := r_nx (i := .lstore 4) (len := 2) hc_226 (by decide +kernel) rfl rfl
theorem s226_5 {u0 : Int64} : hf_rn 226 5 [some (.long u0), l1, l2, l3, l4, l5] st g I J = hf_rn 226 6 [some (.long u0), l1, l2, l3, l4, l5] (.long u0 :: st) g I J := r_nx (i := .lload_n 0) (len := 1) hc_226 (by decide +kernel) rfl rfl
theorem s226_6 {u0 : Int64} : hf_rn 226 6 [l0, l1, some (.long u0), l3, l4, l5] st g I J = hf_rn 226 7 [l0, l1, some (.long u0), l3, l4, l5] (.long u0 :: st) g I J := r_nx (i := .lload_n 2) (len := 1) hc_226 (by decide +kernel) rfl rfl
theorem s226_7 {u0 u1 : Int64} : hf_rn 226 7 [l0, l1, l2, l3, l4, l5] (.long u0 :: .long u1 :: st) g I J = hf_rn 226 8 [l0, l1, l2, l3, l4, l5] (.long (u1 ^^^ u0) :: st) g I J := r_nx (i := .lxor) (len := 1) hc_226 (by decide +kernel) rfl rfl
theorem s226_8 : hf_rn 226 8 [l0, l1, l2, l3, l4, l5] st g I J = hf_rn 226 9 [l0, l1, l2, l3, l4, l5] (.long 0 :: st) g I J := r_lconst (n := 0) hc_226 (by decide +kernel) (by decide)
theorem s226_9 {u0 u1 : Int64} : hf_rn 226 9 [l0, l1, l2, l3, l4, l5] (.long u0 :: .long u1 :: st) g I J = hf_rn 226 10 [l0, l1, l2, l3, l4, l5] (.int (lg_cmp u1 u0) :: st) g I J := r_nx (i := .lcmp) (len := 1) hc_226 (by decide +kernel) rfl rfl
theorem s226_10 {u0 : Int32} : hf_rn 226 10 [l0, l1, l2, l3, l4, l5] (.int u0 :: st) g I J = if 0 ≤ u0 then hf_rn 226 25 [l0, l1, l2, l3, l4, l5] st g I J else hf_rn 226 13 [l0, l1, l2, l3, l4, l5] st g I J := r_br (i := .ifCond .ge 15) (len := 3) hc_226 (by decide +kernel) rfl rfl (by decide)
theorem s226_13 {u0 : Int64} : hf_rn 226 13 [l0, l1, l2, l3, some (.long u0), l5] st g I J = hf_rn 226 15 [l0, l1, l2, l3, some (.long u0), l5] (.long u0 :: st) g I J := r_nx (i := .lload 4) (len := 2) hc_226 (by decide +kernel) rfl rfl
theorem s226_15 : hf_rn 226 15 [l0, l1, l2, l3, l4, l5] st g I J = hf_rn 226 16 [l0, l1, l2, l3, l4, l5] (.long 0 :: st) g I J := r_lconst (n := 0) hc_226 (by decide +kernel) (by decide)
theorem s226_16 {u0 u1 : Int64} : hf_rn 226 16 [l0, l1, l2, l3, l4, l5] (.long u0 :: .long u1 :: st) g I J = hf_rn 226 17 [l0, l1, l2, l3, l4, l5] (.int (lg_cmp u1 u0) :: st) g I J := r_nx (i := .lcmp) (len := 1) hc_226 (by decide +kernel) rfl rfl
theorem s226_17 {u0 : Int32} : hf_rn 226 17 [l0, l1, l2, l3, l4, l5] (.int u0 :: st) g I J = if u0 = 0 then hf_rn 226 25 [l0, l1, l2, l3, l4, l5] st g I J else hf_rn 226 20 [l0, l1, l2, l3, l4, l5] st g I J := r_br (i := .ifCond .eq 8) (len := 3) hc_226 (by decide +kernel) rfl rfl (by decide)
theorem s226_20 {u0 : Int64} : hf_rn 226 20 [l0, l1, l2, l3, some (.long u0), l5] st g I J = hf_rn 226 22 [l0, l1, l2, l3, some (.long u0), l5] (.long u0 :: st) g I J := r_nx (i := .lload 4) (len := 2) hc_226 (by decide +kernel) rfl rfl
theorem s226_22 {u0 : Int64} : hf_rn 226 22 [l0, l1, some (.long u0), l3, l4, l5] st g I J = hf_rn 226 23 [l0, l1, some (.long u0), l3, l4, l5] (.long u0 :: st) g I J := r_nx (i := .lload_n 2) (len := 1) hc_226 (by decide +kernel) rfl rfl
theorem s226_23 {u0 u1 : Int64} : hf_rn 226 23 [l0, l1, l2, l3, l4, l5] (.long u0 :: .long u1 :: st) g I J = hf_rn 226 24 [l0, l1, l2, l3, l4, l5] (.long (u1 + u0) :: st) g I J := r_nx (i := .ladd) (len := 1) hc_226 (by decide +kernel) rfl rfl
theorem s226_24 {u0 : Int64} : hf_rn 226 24 [l0, l1, l2, l3, l4, l5] [.long u0] g I J = some (.inl (some (.long u0)), g, I, J) := r_ret1 hc_226 (by decide +kernel) (by decide +kernel)
theorem s226_25 {u0 : Int64} : hf_rn 226 25 [l0, l1, l2, l3, some (.long u0), l5] st g I J = hf_rn 226 27 [l0, l1, l2, l3, some (.long u0), l5] (.long u0 :: st) g I J := r_nx (i := .lload 4) (len := 2) hc_226 (by decide +kernel) rfl rfl
theorem s226_27 {u0 : Int64} : hf_rn 226 27 [l0, l1, l2, l3, l4, l5] [.long u0] g I J = some (.inl (some (.long u0)), g, I, J) := r_ret1 hc_226 (by decide +kernel) (by decide +kernel)
/-! 227: java/lang/Math.abs(J)J -/
theorem hc_227 : hf_cd 227 = cJ9_abs_067f4 := rfl
theorem hh_227 : hf_hh 227 = [] := rfl
theorem s227_0 {u0 : Int64} : hf_rn 227 0 [some (.long u0), l1] st g I J = hf_rn 227 1 [some (.long u0), l1] (.long u0 :: st) g I J := r_nx (i := .lload_n 0) (len := 1) hc_227 (by decide +kernel) rfl rfl
theorem s227_1 : hf_rn 227 1 [l0, l1] st g I J = hf_rn 227 2 [l0, l1] (.long 0 :: st) g I J := r_lconst (n := 0) hc_227 (by decide +kernel) (by decide)
theorem s227_2 {u0 u1 : Int64} : hf_rn 227 2 [l0, l1] (.long u0 :: .long u1 :: st) g I J = hf_rn 227 3 [l0, l1] (.int (lg_cmp u1 u0) :: st) g I J := r_nx (i := .lcmp) (len := 1) hc_227 (by decide +kernel) rfl rfl
theorem s227_3 {u0 : Int32} : hf_rn 227 3 [l0, l1] (.int u0 :: st) g I J = if 0 ≤ u0 then hf_rn 227 11 [l0, l1] st g I J else hf_rn 227 6 [l0, l1] st g I J := r_br (i := .ifCond .ge 8) (len := 3) hc_227 (by decide +kernel) rfl rfl (by decide)
theorem s227_6 {u0 : Int64} : hf_rn 227 6 [some (.long u0), l1] st g I J = hf_rn 227 7 [some (.long u0), l1] (.long u0 :: st) g I J := r_nx (i := .lload_n 0) (len := 1) hc_227 (by decide +kernel) rfl rfl
theorem s227_7 {u0 : Int64} : hf_rn 227 7 [l0, l1] (.long u0 :: st) g I J = hf_rn 227 8 [l0, l1] (.long (-u0) :: st) g I J := r_nx (i := .lneg) (len := 1) hc_227 (by decide +kernel) rfl rfl
theorem s227_8 : hf_rn 227 8 [l0, l1] st g I J = hf_rn 227 12 [l0, l1] st g I J := r_go (i := .goto 4) (len := 3) hc_227 (by decide +kernel) rfl rfl (by decide)
theorem s227_11 {u0 : Int64} : hf_rn 227 11 [some (.long u0), l1] st g I J = hf_rn 227 12 [some (.long u0), l1] (.long u0 :: st) g I J := r_nx (i := .lload_n 0) (len := 1) hc_227 (by decide +kernel) rfl rfl
theorem s227_12 {u0 : Int64} : hf_rn 227 12 [l0, l1] [.long u0] g I J = some (.inl (some (.long u0)), g, I, J) := r_ret1 hc_227 (by decide +kernel) (by decide +kernel)
/-! 228: java/lang/Math.max(II)I -/
theorem hc_228 : hf_cd 228 = cJ9_max_7cf53 := rfl
theorem hh_228 : hf_hh 228 = [] := rfl
theorem s228_0 {u0 : Int32} : hf_rn 228 0 [some (.int u0), l1] st g I J = hf_rn 228 1 [some (.int u0), l1] (.int u0 :: st) g I J := r_nx (i := .iload_n 0) (len := 1) hc_228 (by decide +kernel) rfl rfl
theorem s228_1 {u0 : Int32} : hf_rn 228 1 [l0, some (.int u0)] st g I J = hf_rn 228 2 [l0, some (.int u0)] (.int u0 :: st) g I J := r_nx (i := .iload_n 1) (len := 1) hc_228 (by decide +kernel) rfl rfl
theorem s228_2 {u0 u1 : Int32} : hf_rn 228 2 [l0, l1] (.int u0 :: .int u1 :: st) g I J = if u1 < u0 then hf_rn 228 9 [l0, l1] st g I J else hf_rn 228 5 [l0, l1] st g I J := r_br (i := .if_icmp .lt 7) (len := 3) hc_228 (by decide +kernel) rfl rfl (by decide)
theorem s228_5 {u0 : Int32} : hf_rn 228 5 [some (.int u0), l1] st g I J = hf_rn 228 6 [some (.int u0), l1] (.int u0 :: st) g I J := r_nx (i := .iload_n 0) (len := 1) hc_228 (by decide +kernel) rfl rfl
theorem s228_6 : hf_rn 228 6 [l0, l1] st g I J = hf_rn 228 10 [l0, l1] st g I J := r_go (i := .goto 4) (len := 3) hc_228 (by decide +kernel) rfl rfl (by decide)
theorem s228_9 {u0 : Int32} : hf_rn 228 9 [l0, some (.int u0)] st g I J = hf_rn 228 10 [l0, some (.int u0)] (.int u0 :: st) g I J := r_nx (i := .iload_n 1) (len := 1) hc_228 (by decide +kernel) rfl rfl
theorem s228_10 {u0 : Int32} : hf_rn 228 10 [l0, l1] [.int u0] g I J = some (.inl (some (.int u0)), g, I, J) := r_ret0 hc_228 (by decide +kernel) (by decide +kernel)
/-! 229: java/lang/Math.min(II)I -/
theorem hc_229 : hf_cd 229 = cJ9_min_7cf53 := rfl
theorem hh_229 : hf_hh 229 = [] := rfl
theorem s229_0 {u0 : Int32} : hf_rn 229 0 [some (.int u0), l1] st g I J = hf_rn 229 1 [some (.int u0), l1] (.int u0 :: st) g I J := r_nx (i := .iload_n 0) (len := 1) hc_229 (by decide +kernel) rfl rfl
theorem s229_1 {u0 : Int32} : hf_rn 229 1 [l0, some (.int u0)] st g I J = hf_rn 229 2 [l0, some (.int u0)] (.int u0 :: st) g I J := r_nx (i := .iload_n 1) (len := 1) hc_229 (by decide +kernel) rfl rfl
theorem s229_2 {u0 u1 : Int32} : hf_rn 229 2 [l0, l1] (.int u0 :: .int u1 :: st) g I J = if u0 < u1 then hf_rn 229 9 [l0, l1] st g I J else hf_rn 229 5 [l0, l1] st g I J := r_br (i := .if_icmp .gt 7) (len := 3) hc_229 (by decide +kernel) rfl rfl (by decide)
theorem s229_5 {u0 : Int32} : hf_rn 229 5 [some (.int u0), l1] st g I J = hf_rn 229 6 [some (.int u0), l1] (.int u0 :: st) g I J := r_nx (i := .iload_n 0) (len := 1) hc_229 (by decide +kernel) rfl rfl
theorem s229_6 : hf_rn 229 6 [l0, l1] st g I J = hf_rn 229 10 [l0, l1] st g I J := r_go (i := .goto 4) (len := 3) hc_229 (by decide +kernel) rfl rfl (by decide)
theorem s229_9 {u0 : Int32} : hf_rn 229 9 [l0, some (.int u0)] st g I J = hf_rn 229 10 [l0, some (.int u0)] (.int u0 :: st) g I J := r_nx (i := .iload_n 1) (len := 1) hc_229 (by decide +kernel) rfl rfl
theorem s229_10 {u0 : Int32} : hf_rn 229 10 [l0, l1] [.int u0] g I J = some (.inl (some (.int u0)), g, I, J) := r_ret0 hc_229 (by decide +kernel) (by decide +kernel)
/-! 230: java/lang/Math.min(JJ)J -/
theorem hc_230 : hf_cd 230 = cJ9_min_f86c9 := rfl
theorem hh_230 : hf_hh 230 = [] := rfl
theorem s230_0 {u0 : Int64} : hf_rn 230 0 [some (.long u0), l1, l2, l3] st g I J = hf_rn 230 1 [some (.long u0), l1, l2, l3] (.long u0 :: st) g I J := r_nx (i := .lload_n 0) (len := 1) hc_230 (by decide +kernel) rfl rfl
theorem s230_1 {u0 : Int64} : hf_rn 230 1 [l0, l1, some (.long u0), l3] st g I J = hf_rn 230 2 [l0, l1, some (.long u0), l3] (.long u0 :: st) g I J := r_nx (i := .lload_n 2) (len := 1) hc_230 (by decide +kernel) rfl rfl
theorem s230_2 {u0 u1 : Int64} : hf_rn 230 2 [l0, l1, l2, l3] (.long u0 :: .long u1 :: st) g I J = hf_rn 230 3 [l0, l1, l2, l3] (.int (lg_cmp u1 u0) :: st) g I J := r_nx (i := .lcmp) (len := 1) hc_230 (by decide +kernel) rfl rfl
theorem s230_3 {u0 : Int32} : hf_rn 230 3 [l0, l1, l2, l3] (.int u0 :: st) g I J = if 0 < u0 then hf_rn 230 10 [l0, l1, l2, l3] st g I J else hf_rn 230 6 [l0, l1, l2, l3] st g I J := r_br (i := .ifCond .gt 7) (len := 3) hc_230 (by decide +kernel) rfl rfl (by decide)
theorem s230_6 {u0 : Int64} : hf_rn 230 6 [some (.long u0), l1, l2, l3] st g I J = hf_rn 230 7 [some (.long u0), l1, l2, l3] (.long u0 :: st) g I J := r_nx (i := .lload_n 0) (len := 1) hc_230 (by decide +kernel) rfl rfl
theorem s230_7 : hf_rn 230 7 [l0, l1, l2, l3] st g I J = hf_rn 230 11 [l0, l1, l2, l3] st g I J := r_go (i := .goto 4) (len := 3) hc_230 (by decide +kernel) rfl rfl (by decide)
theorem s230_10 {u0 : Int64} : hf_rn 230 10 [l0, l1, some (.long u0), l3] st g I J = hf_rn 230 11 [l0, l1, some (.long u0), l3] (.long u0 :: st) g I J := r_nx (i := .lload_n 2) (len := 1) hc_230 (by decide +kernel) rfl rfl
theorem s230_11 {u0 : Int64} : hf_rn 230 11 [l0, l1, l2, l3] [.long u0] g I J = some (.inl (some (.long u0)), g, I, J) := r_ret1 hc_230 (by decide +kernel) (by decide +kernel)
end
