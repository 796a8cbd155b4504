section
variable {l0 l1 l2 l3 l4 l5 l6 l7 l8 l9 l10 l11 l12 l13 l14 l15 l16 l17 : Option Value} {st : List Value} {g : hf_G} {I : hf_I} {J : hf_J}
/-! 224: java/lang/Long.bitCount(J)I -/
theorem hc_224 : hf_cd 224 = cJ13_bitCount_95d88 := rfl
theorem hh_224 : hf_hh 224 = [] := rfl
theorem s224_0 {u0 : Int64} : hf_rn 224 0 [some (.long u0), l1] st g I J = hf_rn 224 1 [some (.long u0), l1] (.long u0 :: st) g I J := r_nx (i := .lload_n 0) (len := 1) hc_224 (by decide +kernel) rfl rfl
theorem s224_1 {u0 : Int64} : hf_rn 224 1 [some (.long u0), l1] st g I J = hf_rn 224 2 [some (.long u0), l1] (.long u0 :: st) g I J := r_nx (i := .lload_n 0) (len := 1) hc_224 (by decide +kernel) rfl rfl
theorem s224_2 : hf_rn 224 2 [l0, l1] st g I J = hf_rn 224 3 [l0, l1] (.int 1 :: st) g I J := r_iconst (n := 1) hc_224 (by decide +kernel) (by decide)
theorem s224_3 {u0 : Int32} {u1 : Int64} : hf_rn 224 3 [l0, l1] (.int u0 :: .long u1 :: st) g I J = hf_rn 224 4 [l0, l1] (.long (u1.toUInt64 >>> (u0.toInt64.toUInt64 &&& Int64.toUInt64 63)).toInt64 :: st) g I J := r_nx (i := .lushr) (len := 1) hc_224 (by decide +kernel) rfl rfl
theorem s224_4 : hf_rn 224 4 [l0, l1] st g I J = hf_rn 224 7 [l0, l1] (.long 6148914691236517205 :: st) g I J := r_ldc2 (ix := 314) hc_224 (by decide +kernel) (by decide +kernel)
theorem s224_7 {u0 u1 : Int64} : hf_rn 224 7 [l0, l1] (.long u0 :: .long u1 :: st) g I J = hf_rn 224 8 [l0, l1] (.long (u1 &&& u0) :: st) g I J := r_nx (i := .land) (len := 1) hc_224 (by decide +kernel) rfl rfl
theorem s224_8 {u0 u1 : Int64} : hf_rn 224 8 [l0, l1] (.long u0 :: .long u1 :: st) g I J = hf_rn 224 9 [l0, l1] (.long (u1 - u0) :: st) g I J := r_nx (i := .lsub) (len := 1) hc_224 (by decide +kernel) rfl rfl
theorem s224_9 {u0 : Int64} : hf_rn 224 9 [l0, l1] (.long u0 :: st) g I J = hf_rn 224 10 [some (.long u0), none] st g I J := r_nx (i := .lstore_n 0) (len := 1) hc_224 (by decide +kernel) rfl rfl
theorem s224_10 {u0 : Int64} : hf_rn 224 10 [some (.long u0), l1] st g I J = hf_rn 224 11 [some (.long u0), l1] (.long u0 :: st) g I J := r_nx (i := .lload_n 0) (len := 1) hc_224 (by decide +kernel) rfl rfl
theorem s224_11 : hf_rn 224 11 [l0, l1] st g I J = hf_rn 224 14 [l0, l1] (.long 3689348814741910323 :: st) g I J := r_ldc2 (ix := 316) hc_224 (by decide +kernel) (by decide +kernel)
theorem s224_14 {u0 u1 : Int64} : hf_rn 224 14 [l0, l1] (.long u0 :: .long u1 :: st) g I J = hf_rn 224 15 [l0, l1] (.long (u1 &&& u0) :: st) g I J := r_nx (i := .land) (len := 1) hc_224 (by decide +kernel) rfl rfl
theorem s224_15 {u0 : Int64} : hf_rn 224 15 [some (.long u0), l1] st g I J = hf_rn 224 16 [some (.long u0), l1] (.long u0 :: st) g I J := r_nx (i := .lload_n 0) (len := 1) hc_224 (by decide +kernel) rfl rfl
theorem s224_16 : hf_rn 224 16 [l0, l1] st g I J = hf_rn 224 17 [l0, l1] (.int 2 :: st) g I J := r_iconst (n := 2) hc_224 (by decide +kernel) (by decide)
theorem s224_17 {u0 : Int32} {u1 : Int64} : hf_rn 224 17 [l0, l1] (.int u0 :: .long u1 :: st) g I J = hf_rn 224 18 [l0, l1] (.long (u1.toUInt64 >>> (u0.toInt64.toUInt64 &&& Int64.toUInt64 63)).toInt64 :: st) g I J := r_nx (i := .lushr) (len := 1) hc_224 (by decide +kernel) rfl rfl
theorem s224_18 : hf_rn 224 18 [l0, l1] st g I J = hf_rn 224 21 [l0, l1] (.long 3689348814741910323 :: st) g I J := r_ldc2 (ix := 316) hc_224 (by decide +kernel) (by decide +kernel)
theorem s224_21 {u0 u1 : Int64} : hf_rn 224 21 [l0, l1] (.long u0 :: .long u1 :: st) g I J = hf_rn 224 22 [l0, l1] (.long (u1 &&& u0) :: st) g I J := r_nx (i := .land) (len := 1) hc_224 (by decide +kernel) rfl rfl
theorem s224_22 {u0 u1 : Int64} : hf_rn 224 22 [l0, l1] (.long u0 :: .long u1 :: st) g I J = hf_rn 224 23 [l0, l1] (.long (u1 + u0) :: st) g I J := r_nx (i := .ladd) (len := 1) hc_224 (by decide +kernel) rfl rfl
theorem s224_23 {u0 : Int64} : hf_rn 224 23 [l0, l1] (.long u0 :: st) g I J = hf_rn 224 24 [some (.long u0), none] st g I J := r_nx (i := .lstore_n 0) (len := 1) hc_224 (by decide +kernel) rfl rfl
theorem s224_24 {u0 : Int64} : hf_rn 224 24 [some (.long u0), l1] st g I J = hf_rn 224 25 [some (.long u0), l1] (.long u0 :: st) g I J := r_nx (i := .lload_n 0) (len := 1) hc_224 (by decide +kernel) rfl rfl
theorem s224_25 {u0 : Int64} : hf_rn 224 25 [some (.long u0), l1] st g I J = hf_rn 224 26 [some (.long u0), l1] (.long u0 :: st) g I J := r_nx (i := .lload_n 0) (len := 1) hc_224 (by decide +kernel) rfl rfl
theorem s224_26 : hf_rn 224 26 [l0, l1] st g I J = hf_rn 224 27 [l0, l1] (.int 4 :: st) g I J := r_iconst (n := 4) hc_224 (by decide +kernel) (by decide)
theorem s224_27 {u0 : Int32} {u1 : Int64} : hf_rn 224 27 [l0, l1] (.int u0 :: .long u1 :: st) g I J = hf_rn 224 28 [l0, l1] (.long (u1.toUInt64 >>> (u0.toInt64.toUInt64 &&& Int64.toUInt64 63)).toInt64 :: st) g I J := r_nx (i := .lushr) (len := 1) hc_224 (by decide +kernel) rfl rfl
theorem s224_28 {u0 u1 : Int64} : hf_rn 224 28 [l0, l1] (.long u0 :: .long u1 :: st) g I J = hf_rn 224 29 [l0, l1] (.long (u1 + u0) :: st) g I J := r_nx (i := .ladd) (len := 1) hc_224 (by decide +kernel) rfl rfl
theorem s224_29 : hf_rn 224 29 [l0, l1] st g I J = hf_rn 224 32 [l0, l1] (.long 1085102592571150095 :: st) g I J := r_ldc2 (ix := 318) hc_224 (by decide +kernel) (by decide +kernel)
theorem s224_32 {u0 u1 : Int64} : hf_rn 224 32 [l0, l1] (.long u0 :: .long u1 :: st) g I J = hf_rn 224 33 [l0, l1] (.long (u1 &&& u0) :: st) g I J := r_nx (i := .land) (len := 1) hc_224 (by decide +kernel) rfl rfl
theorem s224_33 {u0 : Int64} : hf_rn 224 33 [l0, l1] (.long u0 :: st) g I J = hf_rn 224 34 [some (.long u0), none] st g I J := r_nx (i := .lstore_n 0) (len := 1) hc_224 (by decide +kernel) rfl rfl
theorem s224_34 {u0 : Int64} : hf_rn 224 34 [some (.long u0), l1] st g I J = hf_rn 224 35 [some (.long u0), l1] (.long u0 :: st) g I J := r_nx (i := .lload_n 0) (len := 1) hc_224 (by decide +kernel) rfl rfl
theorem s224_35 {u0 : Int64} : hf_rn 224 35 [some (.long u0), l1] st g I J = hf_rn 224 36 [some (.long u0), l1] (.long u0 :: st) g I J := r_nx (i := .lload_n 0) (len := 1) hc_224 (by decide +kernel) rfl rfl
theorem s224_36 : hf_rn 224 36 [l0, l1] st g I J = hf_rn 224 38 [l0, l1] (.int 8 :: st) g I J := r_bipush (n := 8) hc_224 (by decide +kernel) (by decide)
theorem s224_38 {u0 : Int32} {u1 : Int64} : hf_rn 224 38 [l0, l1] (.int u0 :: .long u1 :: st) g I J = hf_rn 224 39 [l0, l1] (.long (u1.toUInt64 >>> (u0.toInt64.toUInt64 &&& Int64.toUInt64 63)).toInt64 :: st) g I J := r_nx (i := .lushr) (len := 1) hc_224 (by decide +kernel) rfl rfl
theorem s224_39 {u0 u1 : Int64} : hf_rn 224 39 [l0, l1] (.long u0 :: .long u1 :: st) g I J = hf_rn 224 40 [l0, l1] (.long (u1 + u0) :: st) g I J := r_nx (i := .ladd) (len := 1) hc_224 (by decide +kernel) rfl rfl
theorem s224_40 {u0 : Int64} : hf_rn 224 40 [l0, l1] (.long u0 :: st) g I J = hf_rn 224 41 [some (.long u0), none] st g I J := r_nx (i := .lstore_n 0) (len := 1) hc_224 (by decide +kernel) rfl rfl
theorem s224_41 {u0 : Int64} : hf_rn 224 41 [some (.long u0), l1] st g I J = hf_rn 224 42 [some (.long u0), l1] (.long u0 :: st) g I J := r_nx (i := .lload_n 0) (len := 1) hc_224 (by decide +kernel) rfl rfl
theorem s224_42 {u0 : Int64} : hf_rn 224 42 [some (.long u0), l1] st g I J = hf_rn 224 43 [some (.long u0), l1] (.long u0 :: st) g I J := r_nx (i := .lload_n 0) (len := 1) hc_224 (by decide +kernel) rfl rfl
theorem s224_43 : hf_rn 224 43 [l0, l1] st g I J = hf_rn 224 45 [l0, l1] (.int 16 :: st) g I J := r_bipush (n := 16) hc_224 (by decide +kernel) (by decide)
theorem s224_45 {u0 : Int32} {u1 : Int64} : hf_rn 224 45 [l0, l1] (.int u0 :: .long u1 :: st) g I J = hf_rn 224 46 [l0, l1] (.long (u1.toUInt64 >>> (u0.toInt64.toUInt64 &&& Int64.toUInt64 63)).toInt64 :: st) g I J := r_nx (i := .lushr) (len := 1) hc_224 (by decide +kernel) rfl rfl
theorem s224_46 {u0 u1 : Int64} : hf_rn 224 46 [l0, l1] (.long u0 :: .long u1 :: st) g I J = hf_rn 224 47 [l0, l1] (.long (u1 + u0) :: st) g I J := r_nx (i := .ladd) (len := 1) hc_224 (by decide +kernel) rfl rfl
theorem s224_47 {u0 : Int64} : hf_rn 224 47 [l0, l1] (.long u0 :: st) g I J = hf_rn 224 48 [some (.long u0), none] st g I J := r_nx (i := .lstore_n 0) (len := 1) hc_224 (by decide +kernel) rfl rfl
theorem s224_48 {u0 : Int64} : hf_rn 224 48 [some (.long u0), l1] st g I J = hf_rn 224 49 [some (.long u0), l1] (.long u0 :: st) g I J := r_nx (i := .lload_n 0) (len := 1) hc_224 (by decide +kernel) rfl rfl
theorem s224_49 {u0 : Int64} : hf_rn 224 49 [some (.long u0), l1] st g I J = hf_rn 224 50 [some (.long u0), l1] (.long u0 :: st) g I J := r_nx (i := .lload_n 0) (len := 1) hc_224 (by decide +kernel) rfl rfl
theorem s224_50 : hf_rn 224 50 [l0, l1] st g I J = hf_rn 224 52 [l0, l1] (.int 32 :: st) g I J := r_bipush (n := 32) hc_224 (by decide +kernel) (by decide)
theorem s224_52 {u0 : Int32} {u1 : Int64} : hf_rn 224 52 [l0, l1] (.int u0 :: .long u1 :: st) g I J = hf_rn 224 53 [l0, l1] (.long (u1.toUInt64 >>> (u0.toInt64.toUInt64 &&& Int64.toUInt64 63)).toInt64 :: st) g I J := r_nx (i := .lushr) (len := 1) hc_224 (by decide +kernel) rfl rfl
theorem s224_53 {u0 u1 : Int64} : hf_rn 224 53 [l0, l1] (.long u0 :: .long u1 :: st) g I J = hf_rn 224 54 [l0, l1] (.long (u1 + u0) :: st) g I J := r_nx (i := .ladd) (len := 1) hc_224 (by decide +kernel) rfl rfl
theorem s224_54 {u0 : Int64} : hf_rn 224 54 [l0, l1] (.long u0 :: st) g I J = hf_rn 224 55 [some (.long u0), none] st g I J := r_nx (i := .lstore_n 0) (len := 1) hc_224 (by decide +kernel) rfl rfl
theorem s224_55 {u0 : Int64} : hf_rn 224 55 [some (.long u0), l1] st g I J = hf_rn 224 56 [some (.long u0), l1] (.long u0 :: st) g I J := r_nx (i := .lload_n 0) (len := 1) hc_224 (by decide +kernel) rfl rfl
theorem s224_56 {u0 : Int64} : hf_rn 224 56 [l0, l1] (.long u0 :: st) g I J = hf_rn 224 57 [l0, l1] (.int u0.toInt32 :: st) g I J := r_nx (i := .l2i) (len := 1) hc_224 (by decide +kernel) rfl rfl
theorem s224_57 : hf_rn 224 57 [l0, l1] st g I J = hf_rn 224 59 [l0, l1] (.int 127 :: st) g I J := r_bipush (n := 127) hc_224 (by decide +kernel) (by decide)
theorem s224_59 {u0 u1 : Int32} : hf_rn 224 59 [l0, l1] (.int u0 :: .int u1 :: st) g I J = hf_rn 224 60 [l0, l1] (.int (u1 &&& u0) :: st) g I J := r_nx (i := .iand) (len := 1) hc_224 (by decide +kernel) rfl rfl
theorem s224_60 {u0 : Int32} : hf_rn 224 60 [l0, l1] [.int u0] g I J = some (.inl (some (.int u0)), g, I, J) := r_ret0 hc_224 (by decide +kernel) (by decide +kernel)
end
