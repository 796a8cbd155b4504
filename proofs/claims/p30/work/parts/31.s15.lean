section
variable {l0 l1 l2 l3 l4 l5 l6 l7 l8 l9 l10 l11 l12 l13 l14 l15 l16 l17 : Option Value} {st : List Value} {g : hf_G} {I : hf_I} {J : hf_J}
/-! 145: java/lang/Long.bitCount(J)I -/
theorem hc_145 : hf_cd 145 = cJ13_bitCount_95d88 := rfl
theorem hh_145 : hf_hh 145 = [] := rfl
theorem s145_0 {u0 : Int64} : hf_rn 145 0 [some (.long u0), l1] st g I J = hf_rn 145 1 [some (.long u0), l1] (.long u0 :: st) g I J := r_nx (i := .lload_n 0) (len := 1) hc_145 (by decide +kernel) rfl rfl
theorem s145_1 {u0 : Int64} : hf_rn 145 1 [some (.long u0), l1] st g I J = hf_rn 145 2 [some (.long u0), l1] (.long u0 :: st) g I J := r_nx (i := .lload_n 0) (len := 1) hc_145 (by decide +kernel) rfl rfl
theorem s145_2 : hf_rn 145 2 [l0, l1] st g I J = hf_rn 145 3 [l0, l1] (.int 1 :: st) g I J := r_iconst (n := 1) hc_145 (by decide +kernel) (by decide)
theorem s145_3 {u0 : Int32} {u1 : Int64} : hf_rn 145 3 [l0, l1] (.int u0 :: .long u1 :: st) g I J = hf_rn 145 4 [l0, l1] (.long (u1.toUInt64 >>> (u0.toInt64.toUInt64 &&& Int64.toUInt64 63)).toInt64 :: st) g I J := r_nx (i := .lushr) (len := 1) hc_145 (by decide +kernel) rfl rfl
theorem s145_4 : hf_rn 145 4 [l0, l1] st g I J = hf_rn 145 7 [l0, l1] (.long 6148914691236517205 :: st) g I J := r_ldc2 (ix := 314) hc_145 (by decide +kernel) (by decide +kernel)
theorem s145_7 {u0 u1 : Int64} : hf_rn 145 7 [l0, l1] (.long u0 :: .long u1 :: st) g I J = hf_rn 145 8 [l0, l1] (.long (u1 &&& u0) :: st) g I J := r_nx (i := .land) (len := 1) hc_145 (by decide +kernel) rfl rfl
theorem s145_8 {u0 u1 : Int64} : hf_rn 145 8 [l0, l1] (.long u0 :: .long u1 :: st) g I J = hf_rn 145 9 [l0, l1] (.long (u1 - u0) :: st) g I J := r_nx (i := .lsub) (len := 1) hc_145 (by decide +kernel) rfl rfl
theorem s145_9 {u0 : Int64} : hf_rn 145 9 [l0, l1] (.long u0 :: st) g I J = hf_rn 145 10 [some (.long u0), none] st g I J := r_nx (i := .lstore_n 0) (len := 1) hc_145 (by decide +kernel) rfl rfl
theorem s145_10 {u0 : Int64} : hf_rn 145 10 [some (.long u0), l1] st g I J = hf_rn 145 11 [some (.long u0), l1] (.long u0 :: st) g I J := r_nx (i := .lload_n 0) (len := 1) hc_145 (by decide +kernel) rfl rfl
theorem s145_11 : hf_rn 145 11 [l0, l1] st g I J = hf_rn 145 14 [l0, l1] (.long 3689348814741910323 :: st) g I J := r_ldc2 (ix := 316) hc_145 (by decide +kernel) (by decide +kernel)
theorem s145_14 {u0 u1 : Int64} : hf_rn 145 14 [l0, l1] (.long u0 :: .long u1 :: st) g I J = hf_rn 145 15 [l0, l1] (.long (u1 &&& u0) :: st) g I J := r_nx (i := .land) (len := 1) hc_145 (by decide +kernel) rfl rfl
theorem s145_15 {u0 : Int64} : hf_rn 145 15 [some (.long u0), l1] st g I J = hf_rn 145 16 [some (.long u0), l1] (.long u0 :: st) g I J := r_nx (i := .lload_n 0) (len := 1) hc_145 (by decide +kernel) rfl rfl
theorem s145_16 : hf_rn 145 16 [l0, l1] st g I J = hf_rn 145 17 [l0, l1] (.int 2 :: st) g I J := r_iconst (n := 2) hc_145 (by decide +kernel) (by decide)
theorem s145_17 {u0 : Int32} {u1 : Int64} : hf_rn 145 17 [l0, l1] (.int u0 :: .long u1 :: st) g I J = hf_rn 145 18 [l0, l1] (.long (u1.toUInt64 >>> (u0.toInt64.toUInt64 &&& Int64.toUInt64 63)).toInt64 :: st) g I J := r_nx (i := .lushr) (len := 1) hc_145 (by decide +kernel) rfl rfl
theorem s145_18 : hf_rn 145 18 [l0, l1] st g I J = hf_rn 145 21 [l0, l1] (.long 3689348814741910323 :: st) g I J := r_ldc2 (ix := 316) hc_145 (by decide +kernel) (by decide +kernel)
theorem s145_21 {u0 u1 : Int64} : hf_rn 145 21 [l0, l1] (.long u0 :: .long u1 :: st) g I J = hf_rn 145 22 [l0, l1] (.long (u1 &&& u0) :: st) g I J := r_nx (i := .land) (len := 1) hc_145 (by decide +kernel) rfl rfl
theorem s145_22 {u0 u1 : Int64} : hf_rn 145 22 [l0, l1] (.long u0 :: .long u1 :: st) g I J = hf_rn 145 23 [l0, l1] (.long (u1 + u0) :: st) g I J := r_nx (i := .ladd) (len := 1) hc_145 (by decide +kernel) rfl rfl
theorem s145_23 {u0 : Int64} : hf_rn 145 23 [l0, l1] (.long u0 :: st) g I J = hf_rn 145 24 [some (.long u0), none] st g I J := r_nx (i := .lstore_n 0) (len := 1) hc_145 (by decide +kernel) rfl rfl
theorem s145_24 {u0 : Int64} : hf_rn 145 24 [some (.long u0), l1] st g I J = hf_rn 145 25 [some (.long u0), l1] (.long u0 :: st) g I J := r_nx (i := .lload_n 0) (len := 1) hc_145 (by decide +kernel) rfl rfl
theorem s145_25 {u0 : Int64} : hf_rn 145 25 [some (.long u0), l1] st g I J = hf_rn 145 26 [some (.long u0), l1] (.long u0 :: st) g I J := r_nx (i := .lload_n 0) (len := 1) hc_145 (by decide +kernel) rfl rfl
theorem s145_26 : hf_rn 145 26 [l0, l1] st g I J = hf_rn 145 27 [l0, l1] (.int 4 :: st) g I J := r_iconst (n := 4) hc_145 (by decide +kernel) (by decide)
theorem s145_27 {u0 : Int32} {u1 : Int64} : hf_rn 145 27 [l0, l1] (.int u0 :: .long u1 :: st) g I J = hf_rn 145 28 [l0, l1] (.long (u1.toUInt64 >>> (u0.toInt64.toUInt64 &&& Int64.toUInt64 63)).toInt64 :: st) g I J := r_nx (i := .lushr) (len := 1) hc_145 (by decide +kernel) rfl rfl
theorem s145_28 {u0 u1 : Int64} : hf_rn 145 28 [l0, l1] (.long u0 :: .long u1 :: st) g I J = hf_rn 145 29 [l0, l1] (.long (u1 + u0) :: st) g I J := r_nx (i := .ladd) (len := 1) hc_145 (by decide +kernel) rfl rfl
theorem s145_29 : hf_rn 145 29 [l0, l1] st g I J = hf_rn 145 32 [l0, l1] (.long 1085102592571150095 :: st) g I J := r_ldc2 (ix := 318) hc_145 (by decide +kernel) (by decide +kernel)
theorem s145_32 {u0 u1 : Int64} : hf_rn 145 32 [l0, l1] (.long u0 :: .long u1 :: st) g I J = hf_rn 145 33 [l0, l1] (.long (u1 &&& u0) :: st) g I J := r_nx (i := .land) (len := 1) hc_145 (by decide +kernel) rfl rfl
theorem s145_33 {u0 : Int64} : hf_rn 145 33 [l0, l1] (.long u0 :: st) g I J = hf_rn 145 34 [some (.long u0), none] st g I J := r_nx (i := .lstore_n 0) (len := 1) hc_145 (by decide +kernel) rfl rfl
theorem s145_34 {u0 : Int64} : hf_rn 145 34 [some (.long u0), l1] st g I J = hf_rn 145 35 [some (.long u0), l1] (.long u0 :: st) g I J := r_nx (i := .lload_n 0) (len := 1) hc_145 (by decide +kernel) rfl rfl
theorem s145_35 {u0 : Int64} : hf_rn 145 35 [some (.long u0), l1] st g I J = hf_rn 145 36 [some (.long u0), l1] (.long u0 :: st) g I J := r_nx (i := .lload_n 0) (len := 1) hc_145 (by decide +kernel) rfl rfl
theorem s145_36 : hf_rn 145 36 [l0, l1] st g I J = hf_rn 145 38 [l0, l1] (.int 8 :: st) g I J := r_bipush (n := 8) hc_145 (by decide +kernel) (by decide)
theorem s145_38 {u0 : Int32} {u1 : Int64} : hf_rn 145 38 [l0, l1] (.int u0 :: .long u1 :: st) g I J = hf_rn 145 39 [l0, l1] (.long (u1.toUInt64 >>> (u0.toInt64.toUInt64 &&& Int64.toUInt64 63)).toInt64 :: st) g I J := r_nx (i := .lushr) (len := 1) hc_145 (by decide +kernel) rfl rfl
theorem s145_39 {u0 u1 : Int64} : hf_rn 145 39 [l0, l1] (.long u0 :: .long u1 :: st) g I J = hf_rn 145 40 [l0, l1] (.long (u1 + u0) :: st) g I J := r_nx (i := .ladd) (len := 1) hc_145 (by decide +kernel) rfl rfl
theorem s145_40 {u0 : Int64} : hf_rn 145 40 [l0, l1] (.long u0 :: st) g I J = hf_rn 145 41 [some (.long u0), none] st g I J := r_nx (i := .lstore_n 0) (len := 1) hc_145 (by decide +kernel) rfl rfl
theorem s145_41 {u0 : Int64} : hf_rn 145 41 [some (.long u0), l1] st g I J = hf_rn 145 42 [some (.long u0), l1] (.long u0 :: st) g I J := r_nx (i := .lload_n 0) (len := 1) hc_145 (by decide +kernel) rfl rfl
theorem s145_42 {u0 : Int64} : hf_rn 145 42 [some (.long u0), l1] st g I J = hf_rn 145 43 [some (.long u0), l1] (.long u0 :: st) g I J := r_nx (i := .lload_n 0) (len := 1) hc_145 (by decide +kernel) rfl rfl
theorem s145_43 : hf_rn 145 43 [l0, l1] st g I J = hf_rn 145 45 [l0, l1] (.int 16 :: st) g I J := r_bipush (n := 16) hc_145 (by decide +kernel) (by decide)
theorem s145_45 {u0 : Int32} {u1 : Int64} : hf_rn 145 45 [l0, l1] (.int u0 :: .long u1 :: st) g I J = hf_rn 145 46 [l0, l1] (.long (u1.toUInt64 >>> (u0.toInt64.toUInt64 &&& Int64.toUInt64 63)).toInt64 :: st) g I J := r_nx (i := .lushr) (len := 1) hc_145 (by decide +kernel) rfl rfl
theorem s145_46 {u0 u1 : Int64} : hf_rn 145 46 [l0, l1] (.long u0 :: .long u1 :: st) g I J = hf_rn 145 47 [l0, l1] (.long (u1 + u0) :: st) g I J := r_nx (i := .ladd) (len := 1) hc_145 (by decide +kernel) rfl rfl
theorem s145_47 {u0 : Int64} : hf_rn 145 47 [l0, l1] (.long u0 :: st) g I J = hf_rn 145 48 [some (.long u0), none] st g I J := r_nx (i := .lstore_n 0) (len := 1) hc_145 (by decide +kernel) rfl rfl
theorem s145_48 {u0 : Int64} : hf_rn 145 48 [some (.long u0), l1] st g I J = hf_rn 145 49 [some (.long u0), l1] (.long u0 :: st) g I J := r_nx (i := .lload_n 0) (len := 1) hc_145 (by decide +kernel) rfl rfl
theorem s145_49 {u0 : Int64} : hf_rn 145 49 [some (.long u0), l1] st g I J = hf_rn 145 50 [some (.long u0), l1] (.long u0 :: st) g I J := r_nx (i := .lload_n 0) (len := 1) hc_145 (by decide +kernel) rfl rfl
theorem s145_50 : hf_rn 145 50 [l0, l1] st g I J = hf_rn 145 52 [l0, l1] (.int 32 :: st) g I J := r_bipush (n := 32) hc_145 (by decide +kernel) (by decide)
theorem s145_52 {u0 : Int32} {u1 : Int64} : hf_rn 145 52 [l0, l1] (.int u0 :: .long u1 :: st) g I J = hf_rn 145 53 [l0, l1] (.long (u1.toUInt64 >>> (u0.toInt64.toUInt64 &&& Int64.toUInt64 63)).toInt64 :: st) g I J := r_nx (i := .lushr) (len := 1) hc_145 (by decide +kernel) rfl rfl
theorem s145_53 {u0 u1 : Int64} : hf_rn 145 53 [l0, l1] (.long u0 :: .long u1 :: st) g I J = hf_rn 145 54 [l0, l1] (.long (u1 + u0) :: st) g I J := r_nx (i := .ladd) (len := 1) hc_145 (by decide +kernel) rfl rfl
theorem s145_54 {u0 : Int64} : hf_rn 145 54 [l0, l1] (.long u0 :: st) g I J = hf_rn 145 55 [some (.long u0), none] st g I J := r_nx (i := .lstore_n 0) (len := 1) hc_145 (by decide +kernel) rfl rfl
theorem s145_55 {u0 : Int64} : hf_rn 145 55 [some (.long u0), l1] st g I J = hf_rn 145 56 [some (.long u0), l1] (.long u0 :: st) g I J := r_nx (i := .lload_n 0) (len := 1) hc_145 (by decide +kernel) rfl rfl
theorem s145_56 {u0 : Int64} : hf_rn 145 56 [l0, l1] (.long u0 :: st) g I J = hf_rn 145 57 [l0, l1] (.int u0.toInt32 :: st) g I J := r_nx (i := .l2i) (len := 1) hc_145 (by decide +kernel) rfl rfl
theorem s145_57 : hf_rn 145 57 [l0, l1] st g I J = hf_rn 145 59 [l0, l1] (.int 127 :: st) g I J := r_bipush (n := 127) hc_145 (by decide +kernel) (by decide)
theorem s145_59 {u0 u1 : Int32} : hf_rn 145 59 [l0, l1] (.int u0 :: .int u1 :: st) g I J = hf_rn 145 60 [l0, l1] (.int (u1 &&& u0) :: st) g I J := r_nx (i := .iand) (len := 1) hc_145 (by decide +kernel) rfl rfl
theorem s145_60 {u0 : Int32} : hf_rn 145 60 [l0, l1] [.int u0] g I J = some (.inl (some (.int u0)), g, I, J) := r_ret0 hc_145 (by decide +kernel) (by decide +kernel)
end
