section
variable {l0 l1 l2 l3 l4 l5 l6 l7 l8 l9 l10 l11 l12 l13 l14 l15 l16 l17 : Option Value} {st : List Value} {g : hf_G} {I : hf_I} {J : hf_J}
/-! 61: Halofinder$Room.place(J)J -/
theorem hc_61 : hf_cd 61 = cX5_place := rfl
theorem hh_61 : hf_hh 61 = [] := rfl
theorem s61_0 {u0 : Int64} : hf_rn 61 0 [some (.long u0), l1] st g I J = hf_rn 61 1 [some (.long u0), l1] (.long u0 :: st) g I J := r_nx (i := .lload_n 0) (len := 1) hc_61 (by decide +kernel) rfl rfl
theorem s61_1 : hf_rn 61 1 [l0, l1] st g I J = hf_rn 61 4 [l0, l1] (.long 4096 :: st) g I J := r_ldc2 (ix := 11) hc_61 (by decide +kernel) (by decide +kernel)
theorem s61_4 {u0 : Int64} {u1 : Int64} : hf_rn 61 4 [l0, l1] [.long u0, .long u1] g I J = hf_bd 61 4 [l0, l1] [] (hf_rn 147 0 [some (.long u1), none, some (.long u0), none, none, none] [] g I J) := r_callS (ix := 13) (y := 147) (n := 2) (kd := 0) hc_61 (by decide +kernel) (by decide +kernel) (by decide +kernel) rfl rfl (Nat.le_of_ble_eq_true rfl) (Nat.le_of_ble_eq_true rfl) (Nat.le_of_ble_eq_true rfl) rfl
theorem s61_7 {u0 : Int64} : hf_rn 61 7 [l0, l1] [.long u0] g I J = some (.inl (some (.long u0)), g, I, J) := r_ret1 hc_61 (by decide +kernel) (by decide +kernel)
/-! 62: Halofinder$Room.way(JJ)J -/
theorem hc_62 : hf_cd 62 = cX5_way := rfl
theorem hh_62 : hf_hh 62 = [] := rfl
theorem s62_0 {u0 : Int64} : hf_rn 62 0 [l0, l1, some (.long u0), l3] st g I J = hf_rn 62 1 [l0, l1, some (.long u0), l3] (.long u0 :: st) g I J := r_nx (i := .lload_n 2) (len := 1) hc_62 (by decide +kernel) rfl rfl
theorem s62_1 {u0 : Int64} : hf_rn 62 1 [some (.long u0), l1, l2, l3] st g I J = hf_rn 62 2 [some (.long u0), l1, l2, l3] (.long u0 :: st) g I J := r_nx (i := .lload_n 0) (len := 1) hc_62 (by decide +kernel) rfl rfl
theorem s62_2 {u0 u1 : Int64} : hf_rn 62 2 [l0, l1, l2, l3] (.long u0 :: .long u1 :: st) g I J = hf_rn 62 3 [l0, l1, l2, l3] (.long (u1 - u0) :: st) g I J := r_nx (i := .lsub) (len := 1) hc_62 (by decide +kernel) rfl rfl
theorem s62_3 : hf_rn 62 3 [l0, l1, l2, l3] st g I J = hf_rn 62 6 [l0, l1, l2, l3] (.long 2048 :: st) g I J := r_ldc2 (ix := 19) hc_62 (by decide +kernel) (by decide +kernel)
theorem s62_6 {u0 u1 : Int64} : hf_rn 62 6 [l0, l1, l2, l3] (.long u0 :: .long u1 :: st) g I J = hf_rn 62 7 [l0, l1, l2, l3] (.long (u1 + u0) :: st) g I J := r_nx (i := .ladd) (len := 1) hc_62 (by decide +kernel) rfl rfl
theorem s62_7 : hf_rn 62 7 [l0, l1, l2, l3] st g I J = hf_rn 62 10 [l0, l1, l2, l3] (.long 4096 :: st) g I J := r_ldc2 (ix := 11) hc_62 (by decide +kernel) (by decide +kernel)
theorem s62_10 {u0 : Int64} {u1 : Int64} : hf_rn 62 10 [l0, l1, l2, l3] [.long u0, .long u1] g I J = hf_bd 62 10 [l0, l1, l2, l3] [] (hf_rn 147 0 [some (.long u1), none, some (.long u0), none, none, none] [] g I J) := r_callS (ix := 13) (y := 147) (n := 2) (kd := 0) hc_62 (by decide +kernel) (by decide +kernel) (by decide +kernel) rfl rfl (Nat.le_of_ble_eq_true rfl) (Nat.le_of_ble_eq_true rfl) (Nat.le_of_ble_eq_true rfl) rfl
theorem s62_13 : hf_rn 62 13 [l0, l1, l2, l3] st g I J = hf_rn 62 16 [l0, l1, l2, l3] (.long 2048 :: st) g I J := r_ldc2 (ix := 19) hc_62 (by decide +kernel) (by decide +kernel)
theorem s62_16 {u0 u1 : Int64} : hf_rn 62 16 [l0, l1, l2, l3] (.long u0 :: .long u1 :: st) g I J = hf_rn 62 17 [l0, l1, l2, l3] (.long (u1 - u0) :: st) g I J := r_nx (i := .lsub) (len := 1) hc_62 (by decide +kernel) rfl rfl
theorem s62_17 {u0 : Int64} : hf_rn 62 17 [l0, l1, l2, l3] [.long u0] g I J = some (.inl (some (.long u0)), g, I, J) := r_ret1 hc_62 (by decide +kernel) (by decide +kernel)
/-! 63: Halofinder$Room.far(JJ)J -/
theorem hc_63 : hf_cd 63 = cX5_far := rfl
theorem hh_63 : hf_hh 63 = [] := rfl
theorem s63_0 {u0 : Int64} : hf_rn 63 0 [some (.long u0), l1, l2, l3, l4, l5, l6, l7, l8, l9, l10, l11] st g I J = hf_rn 63 1 [some (.long u0), l1, l2, l3, l4, l5, l6, l7, l8, l9, l10, l11] (.long u0 :: st) g I J := r_nx (i := .lload_n 0) (len := 1) hc_63 (by decide +kernel) rfl rfl
theorem s63_1 {u0 : Int64} : hf_rn 63 1 [some (.long u0), l1, l2, l3, l4, l5, l6, l7, l8, l9, l10, l11] st g I J = hf_rn 63 2 [some (.long u0), l1, l2, l3, l4, l5, l6, l7, l8, l9, l10, l11] (.long u0 :: st) g I J := r_nx (i := .lload_n 0) (len := 1) hc_63 (by decide +kernel) rfl rfl
theorem s63_2 {u0 u1 : Int64} : hf_rn 63 2 [l0, l1, l2, l3, l4, l5, l6, l7, l8, l9, l10, l11] (.long u0 :: .long u1 :: st) g I J = hf_rn 63 3 [l0, l1, l2, l3, l4, l5, l6, l7, l8, l9, l10, l11] (.long (u1 * u0) :: st) g I J := r_nx (i := .lmul) (len := 1) hc_63 (by decide +kernel) rfl rfl
theorem s63_3 {u0 : Int64} : hf_rn 63 3 [l0, l1, some (.long u0), l3, l4, l5, l6, l7, l8, l9, l10, l11] st g I J = hf_rn 63 4 [l0, l1, some (.long u0), l3, l4, l5, l6, l7, l8, l9, l10, l11] (.long u0 :: st) g I J := r_nx (i := .lload_n 2) (len := 1) hc_63 (by decide +kernel) rfl rfl
theorem s63_4 {u0 : Int64} : hf_rn 63 4 [l0, l1, some (.long u0), l3, l4, l5, l6, l7, l8, l9, l10, l11] st g I J = hf_rn 63 5 [l0, l1, some (.long u0), l3, l4, l5, l6, l7, l8, l9, l10, l11] (.long u0 :: st) g I J := r_nx (i := .lload_n 2) (len := 1) hc_63 (by decide +kernel) rfl rfl
theorem s63_5 {u0 u1 : Int64} : hf_rn 63 5 [l0, l1, l2, l3, l4, l5, l6, l7, l8, l9, l10, l11] (.long u0 :: .long u1 :: st) g I J = hf_rn 63 6 [l0, l1, l2, l3, l4, l5, l6, l7, l8, l9, l10, l11] (.long (u1 * u0) :: st) g I J := r_nx (i := .lmul) (len := 1) hc_63 (by decide +kernel) rfl rfl
theorem s63_6 {u0 u1 : Int64} : hf_rn 63 6 [l0, l1, l2, l3, l4, l5, l6, l7, l8, l9, l10, l11] (.long u0 :: .long u1 :: st) g I J = hf_rn 63 7 [l0, l1, l2, l3, l4, l5, l6, l7, l8, l9, l10, l11] (.long (u1 + u0) :: st) g I J := r_nx (i := .ladd) (len := 1) hc_63 (by decide +kernel) rfl rfl
theorem s63_7 {u0 : Int64} : hf_rn 63 7 [l0, l1, l2, l3, l4, l5, l6, l7, l8, l9, l10, l11] (.long u0 :: st) g I J = hf_rn 63 9 [l0, l1, l2, hf_iv l3, some (.long u0), none, l6, l7, l8, l9, l10, l11] st g I J := r_nx (i := .lstore 4) (len := 2) hc_63 (by decide +kernel) rfl rfl
theorem s63_9 : hf_rn 63 9 [l0, l1, l2, l3, l4, l5, l6, l7, l8, l9, l10, l11] st g I J = hf_rn 63 10 [l0, l1, l2, l3, l4, l5, l6, l7, l8, l9, l10, l11] (.long 0 :: st) g I J := r_lconst (n := 0) hc_63 (by decide +kernel) (by decide)
theorem s63_10 {u0 : Int64} : hf_rn 63 10 [l0, l1, l2, l3, l4, l5, l6, l7, l8, l9, l10, l11] (.long u0 :: st) g I J = hf_rn 63 12 [l0, l1, l2, l3, l4, hf_iv l5, some (.long u0), none, l8, l9, l10, l11] st g I J := r_nx (i := .lstore 6) (len := 2) hc_63 (by decide +kernel) rfl rfl
theorem s63_12 : hf_rn 63 12 [l0, l1, l2, l3, l4, l5, l6, l7, l8, l9, l10, l11] st g I J = hf_rn 63 15 [l0, l1, l2, l3, l4, l5, l6, l7, l8, l9, l10, l11] (.long 2048 :: st) g I J := r_ldc2 (ix := 19) hc_63 (by decide +kernel) (by decide +kernel)
theorem s63_15 {u0 : Int64} : hf_rn 63 15 [l0, l1, l2, l3, l4, l5, l6, l7, l8, l9, l10, l11] (.long u0 :: st) g I J = hf_rn 63 17 [l0, l1, l2, l3, l4, l5, l6, hf_iv l7, some (.long u0), none, l10, l11] st g I J := r_nx (i := .lstore 8) (len := 2) hc_63 (by decide +kernel) rfl rfl
theorem s63_17 {u0 : Int64} : hf_rn 63 17 [l0, l1, l2, l3, l4, l5, l6, l7, some (.long u0), l9, l10, l11] st g I J = hf_rn 63 19 [l0, l1, l2, l3, l4, l5, l6, l7, some (.long u0), l9, l10, l11] (.long u0 :: st) g I J := r_nx (i := .lload 8) (len := 2) hc_63 (by decide +kernel) rfl rfl
theorem s63_19 : hf_rn 63 19 [l0, l1, l2, l3, l4, l5, l6, l7, l8, l9, l10, l11] st g I J = hf_rn 63 20 [l0, l1, l2, l3, l4, l5, l6, l7, l8, l9, l10, l11] (.long 0 :: st) g I J := r_lconst (n := 0) hc_63 (by decide +kernel) (by decide)
theorem s63_20 {u0 u1 : Int64} : hf_rn 63 20 [l0, l1, l2, l3, l4, l5, l6, l7, l8, l9, l10, l11] (.long u0 :: .long u1 :: st) g I J = hf_rn 63 21 [l0, l1, l2, l3, l4, l5, l6, l7, l8, l9, l10, l11] (.int (lg_cmp u1 u0) :: st) g I J := r_nx (i := .lcmp) (len := 1) hc_63 (by decide +kernel) rfl rfl
theorem s63_21 {u0 : Int32} : hf_rn 63 21 [l0, l1, l2, l3, l4, l5, l6, l7, l8, l9, l10, l11] (.int u0 :: st) g I J = if u0 ≤ 0 then hf_rn 63 57 [l0, l1, l2, l3, l4, l5, l6, l7, l8, l9, l10, l11] st g I J else hf_rn 63 24 [l0, l1, l2, l3, l4, l5, l6, l7, l8, l9, l10, l11] st g I J := r_br (i := .ifCond .le 36) (len := 3) hc_63 (by decide +kernel) rfl rfl (by decide)
theorem s63_24 {u0 : Int64} : hf_rn 63 24 [l0, l1, l2, l3, l4, l5, some (.long u0), l7, l8, l9, l10, l11] st g I J = hf_rn 63 26 [l0, l1, l2, l3, l4, l5, some (.long u0), l7, l8, l9, l10, l11] (.long u0 :: st) g I J := r_nx (i := .lload 6) (len := 2) hc_63 (by decide +kernel) rfl rfl
theorem s63_26 {u0 : Int64} : hf_rn 63 26 [l0, l1, l2, l3, l4, l5, l6, l7, some (.long u0), l9, l10, l11] st g I J = hf_rn 63 28 [l0, l1, l2, l3, l4, l5, l6, l7, some (.long u0), l9, l10, l11] (.long u0 :: st) g I J := r_nx (i := .lload 8) (len := 2) hc_63 (by decide +kernel) rfl rfl
theorem s63_28 {u0 u1 : Int64} : hf_rn 63 28 [l0, l1, l2, l3, l4, l5, l6, l7, l8, l9, l10, l11] (.long u0 :: .long u1 :: st) g I J = hf_rn 63 29 [l0, l1, l2, l3, l4, l5, l6, l7, l8, l9, l10, l11] (.long (u1 + u0) :: st) g I J := r_nx (i := .ladd) (len := 1) hc_63 (by decide +kernel) rfl rfl
theorem s63_29 {u0 : Int64} : hf_rn 63 29 [l0, l1, l2, l3, l4, l5, l6, l7, l8, l9, l10, l11] (.long u0 :: st) g I J = hf_rn 63 31 [l0, l1, l2, l3, l4, l5, l6, l7, l8, hf_iv l9, some (.long u0), none] st g I J := r_nx (i := .lstore 10) (len := 2) hc_63 (by decide +kernel) rfl rfl
theorem s63_31 {u0 : Int64} : hf_rn 63 31 [l0, l1, l2, l3, l4, l5, l6, l7, l8, l9, some (.long u0), l11] st g I J = hf_rn 63 33 [l0, l1, l2, l3, l4, l5, l6, l7, l8, l9, some (.long u0), l11] (.long u0 :: st) g I J := r_nx (i := .lload 10) (len := 2) hc_63 (by decide +kernel) rfl rfl
theorem s63_33 {u0 : Int64} : hf_rn 63 33 [l0, l1, l2, l3, l4, l5, l6, l7, l8, l9, some (.long u0), l11] st g I J = hf_rn 63 35 [l0, l1, l2, l3, l4, l5, l6, l7, l8, l9, some (.long u0), l11] (.long u0 :: st) g I J := r_nx (i := .lload 10) (len := 2) hc_63 (by decide +kernel) rfl rfl
theorem s63_35 {u0 u1 : Int64} : hf_rn 63 35 [l0, l1, l2, l3, l4, l5, l6, l7, l8, l9, l10, l11] (.long u0 :: .long u1 :: st) g I J = hf_rn 63 36 [l0, l1, l2, l3, l4, l5, l6, l7, l8, l9, l10, l11] (.long (u1 * u0) :: st) g I J := r_nx (i := .lmul) (len := 1) hc_63 (by decide +kernel) rfl rfl
theorem s63_36 {u0 : Int64} : hf_rn 63 36 [l0, l1, l2, l3, some (.long u0), l5, l6, l7, l8, l9, l10, l11] st g I J = hf_rn 63 38 [l0, l1, l2, l3, some (.long u0), l5, l6, l7, l8, l9, l10, l11] (.long u0 :: st) g I J := r_nx (i := .lload 4) (len := 2) hc_63 (by decide +kernel) rfl rfl
theorem s63_38 {u0 u1 : Int64} : hf_rn 63 38 [l0, l1, l2, l3, l4, l5, l6, l7, l8, l9, l10, l11] (.long u0 :: .long u1 :: st) g I J = hf_rn 63 39 [l0, l1, l2, l3, l4, l5, l6, l7, l8, l9, l10, l11] (.int (lg_cmp u1 u0) :: st) g I J := r_nx (i := .lcmp) (len := 1) hc_63 (by decide +kernel) rfl rfl
theorem s63_39 {u0 : Int32} : hf_rn 63 39 [l0, l1, l2, l3, l4, l5, l6, l7, l8, l9, l10, l11] (.int u0 :: st) g I J = if 0 < u0 then hf_rn 63 46 [l0, l1, l2, l3, l4, l5, l6, l7, l8, l9, l10, l11] st g I J else hf_rn 63 42 [l0, l1, l2, l3, l4, l5, l6, l7, l8, l9, l10, l11] st g I J := r_br (i := .ifCond .gt 7) (len := 3) hc_63 (by decide +kernel) rfl rfl (by decide)
theorem s63_42 {u0 : Int64} : hf_rn 63 42 [l0, l1, l2, l3, l4, l5, l6, l7, l8, l9, some (.long u0), l11] st g I J = hf_rn 63 44 [l0, l1, l2, l3, l4, l5, l6, l7, l8, l9, some (.long u0), l11] (.long u0 :: st) g I J := r_nx (i := .lload 10) (len := 2) hc_63 (by decide +kernel) rfl rfl
theorem s63_44 {u0 : Int64} : hf_rn 63 44 [l0, l1, l2, l3, l4, l5, l6, l7, l8, l9, l10, l11] (.long u0 :: st) g I J = hf_rn 63 46 [l0, l1, l2, l3, l4, hf_iv l5, some (.long u0), none, l8, l9, l10, l11] st g I J := r_nx (i := .lstore 6) (len := 2) hc_63 (by decide +kernel) rfl rfl
theorem s63_46 {u0 : Int64} : hf_rn 63 46 [l0, l1, l2, l3, l4, l5, l6, l7, some (.long u0), l9, l10, l11] st g I J = hf_rn 63 48 [l0, l1, l2, l3, l4, l5, l6, l7, some (.long u0), l9, l10, l11] (.long u0 :: st) g I J := r_nx (i := .lload 8) (len := 2) hc_63 (by decide +kernel) rfl rfl
theorem s63_48 : hf_rn 63 48 [l0, l1, l2, l3, l4, l5, l6, l7, l8, l9, l10, l11] st g I J = hf_rn 63 51 [l0, l1, l2, l3, l4, l5, l6, l7, l8, l9, l10, l11] (.long 2 :: st) g I J := r_ldc2 (ix := 21) hc_63 (by decide +kernel) (by decide +kernel)
theorem s63_51 {u0 u1 : Int64} (h0 : ¬ u0 = 0) : hf_rn 63 51 [l0, l1, l2, l3, l4, l5, l6, l7, l8, l9, l10, l11] (.long u0 :: .long u1 :: st) g I J = hf_rn 63 52 [l0, l1, l2, l3, l4, l5, l6, l7, l8, l9, l10, l11] (.long (u1 / u0) :: st) g I J := r_ldiv hc_63 (by decide +kernel) h0
theorem s63_52 {u0 : Int64} : hf_rn 63 52 [l0, l1, l2, l3, l4, l5, l6, l7, l8, l9, l10, l11] (.long u0 :: st) g I J = hf_rn 63 54 [l0, l1, l2, l3, l4, l5, l6, hf_iv l7, some (.long u0), none, l10, l11] st g I J := r_nx (i := .lstore 8) (len := 2) hc_63 (by decide +kernel) rfl rfl
theorem s63_54 : hf_rn 63 54 [l0, l1, l2, l3, l4, l5, l6, l7, l8, l9, l10, l11] st g I J = hf_rn 63 17 [l0, l1, l2, l3, l4, l5, l6, l7, l8, l9, l10, l11] st g I J := r_go (i := .goto (-37)) (len := 3) hc_63 (by decide +kernel) rfl rfl (by decide)
theorem s63_57 {u0 : Int64} : hf_rn 63 57 [l0, l1, l2, l3, l4, l5, some (.long u0), l7, l8, l9, l10, l11] st g I J = hf_rn 63 59 [l0, l1, l2, l3, l4, l5, some (.long u0), l7, l8, l9, l10, l11] (.long u0 :: st) g I J := r_nx (i := .lload 6) (len := 2) hc_63 (by decide +kernel) rfl rfl
theorem s63_59 {u0 : Int64} : hf_rn 63 59 [l0, l1, l2, l3, l4, l5, l6, l7, l8, l9, l10, l11] [.long u0] g I J = some (.inl (some (.long u0)), g, I, J) := r_ret1 hc_63 (by decide +kernel) (by decide +kernel)
/-! 64: Halofinder$Room.by(JJ)J -/
theorem hc_64 : hf_cd 64 = cX5_by := rfl
theorem hh_64 : hf_hh 64 = [] := rfl
theorem s64_0 {u0 : Int64} : hf_rn 64 0 [l0, l1, some (.long u0), l3] st g I J = hf_rn 64 1 [l0, l1, some (.long u0), l3] (.long u0 :: st) g I J := r_nx (i := .lload_n 2) (len := 1) hc_64 (by decide +kernel) rfl rfl
theorem s64_1 : hf_rn 64 1 [l0, l1, l2, l3] st g I J = hf_rn 64 2 [l0, l1, l2, l3] (.long 0 :: st) g I J := r_lconst (n := 0) hc_64 (by decide +kernel) (by decide)
theorem s64_2 {u0 u1 : Int64} : hf_rn 64 2 [l0, l1, l2, l3] (.long u0 :: .long u1 :: st) g I J = hf_rn 64 3 [l0, l1, l2, l3] (.int (lg_cmp u1 u0) :: st) g I J := r_nx (i := .lcmp) (len := 1) hc_64 (by decide +kernel) rfl rfl
theorem s64_3 {u0 : Int32} : hf_rn 64 3 [l0, l1, l2, l3] (.int u0 :: st) g I J = if ¬ u0 = 0 then hf_rn 64 10 [l0, l1, l2, l3] st g I J else hf_rn 64 6 [l0, l1, l2, l3] st g I J := r_br (i := .ifCond .ne 7) (len := 3) hc_64 (by decide +kernel) rfl rfl (by decide)
theorem s64_6 : hf_rn 64 6 [l0, l1, l2, l3] st g I J = hf_rn 64 7 [l0, l1, l2, l3] (.long 0 :: st) g I J := r_lconst (n := 0) hc_64 (by decide +kernel) (by decide)
theorem s64_7 : hf_rn 64 7 [l0, l1, l2, l3] st g I J = hf_rn 64 13 [l0, l1, l2, l3] st g I J := r_go (i := .goto 6) (len := 3) hc_64 (by decide +kernel) rfl rfl (by decide)
theorem s64_10 {u0 : Int64} : hf_rn 64 10 [some (.long u0), l1, l2, l3] st g I J = hf_rn 64 11 [some (.long u0), l1, l2, l3] (.long u0 :: st) g I J := r_nx (i := .lload_n 0) (len := 1) hc_64 (by decide +kernel) rfl rfl
theorem s64_11 {u0 : Int64} : hf_rn 64 11 [l0, l1, some (.long u0), l3] st g I J = hf_rn 64 12 [l0, l1, some (.long u0), l3] (.long u0 :: st) g I J := r_nx (i := .lload_n 2) (len := 1) hc_64 (by decide +kernel) rfl rfl
theorem s64_12 {u0 u1 : Int64} (h0 : ¬ u0 = 0) : hf_rn 64 12 [l0, l1, l2, l3] (.long u0 :: .long u1 :: st) g I J = hf_rn 64 13 [l0, l1, l2, l3] (.long (u1 / u0) :: st) g I J := r_ldiv hc_64 (by decide +kernel) h0
theorem s64_13 {u0 : Int64} : hf_rn 64 13 [l0, l1, l2, l3] [.long u0] g I J = some (.inl (some (.long u0)), g, I, J) := r_ret1 hc_64 (by decide +kernel) (by decide +kernel)
/-! 65: Halofinder$Room.byRoundedDown(JJ)J -/
theorem hc_65 : hf_cd 65 = cX5_byRoundedDown := rfl
theorem hh_65 : hf_hh 65 = [] := rfl
theorem s65_0 {u0 : Int64} : hf_rn 65 0 [l0, l1, some (.long u0), l3] st g I J = hf_rn 65 1 [l0, l1, some (.long u0), l3] (.long u0 :: st) g I J := r_nx (i := .lload_n 2) (len := 1) hc_65 (by decide +kernel) rfl rfl
theorem s65_1 : hf_rn 65 1 [l0, l1, l2, l3] st g I J = hf_rn 65 2 [l0, l1, l2, l3] (.long 0 :: st) g I J := r_lconst (n := 0) hc_65 (by decide +kernel) (by decide)
theorem s65_2 {u0 u1 : Int64} : hf_rn 65 2 [l0, l1, l2, l3] (.long u0 :: .long u1 :: st) g I J = hf_rn 65 3 [l0, l1, l2, l3] (.int (lg_cmp u1 u0) :: st) g I J := r_nx (i := .lcmp) (len := 1) hc_65 (by decide +kernel) rfl rfl
theorem s65_3 {u0 : Int32} : hf_rn 65 3 [l0, l1, l2, l3] (.int u0 :: st) g I J = if ¬ u0 = 0 then hf_rn 65 10 [l0, l1, l2, l3] st g I J else hf_rn 65 6 [l0, l1, l2, l3] st g I J := r_br (i := .ifCond .ne 7) (len := 3) hc_65 (by decide +kernel) rfl rfl (by decide)
theorem s65_6 : hf_rn 65 6 [l0, l1, l2, l3] st g I J = hf_rn 65 7 [l0, l1, l2, l3] (.long 0 :: st) g I J := r_lconst (n := 0) hc_65 (by decide +kernel) (by decide)
theorem s65_7 : hf_rn 65 7 [l0, l1, l2, l3] st g I J = hf_rn 65 15 [l0, l1, l2, l3] st g I J := r_go (i := .goto 8) (len := 3) hc_65 (by decide +kernel) rfl rfl (by decide)
theorem s65_10 {u0 : Int64} : hf_rn 65 10 [some (.long u0), l1, l2, l3] st g I J = hf_rn 65 11 [some (.long u0), l1, l2, l3] (.long u0 :: st) g I J := r_nx (i := .lload_n 0) (len := 1) hc_65 (by decide +kernel) rfl rfl
theorem s65_11 {u0 : Int64} : hf_rn 65 11 [l0, l1, some (.long u0), l3] st g I J = hf_rn 65 12 [l0, l1, some (.long u0), l3] (.long u0 :: st) g I J := r_nx (i := .lload_n 2) (len := 1) hc_65 (by decide +kernel) rfl rfl
theorem s65_12 {u0 : Int64} {u1 : Int64} : hf_rn 65 12 [l0, l1, l2, l3] [.long u0, .long u1] g I J = hf_bd 65 12 [l0, l1, l2, l3] [] (hf_rn 146 0 [some (.long u1), none, some (.long u0), none, none, none] [] g I J) := r_callS (ix := 23) (y := 146) (n := 2) (kd := 0) hc_65 (by decide +kernel) (by decide +kernel) (by decide +kernel) rfl rfl (Nat.le_of_ble_eq_true rfl) (Nat.le_of_ble_eq_true rfl) (Nat.le_of_ble_eq_true rfl) rfl
theorem s65_15 {u0 : Int64} : hf_rn 65 15 [l0, l1, l2, l3] [.long u0] g I J = some (.inl (some (.long u0)), g, I, J) := r_ret1 hc_65 (by decide +kernel) (by decide +kernel)
/-! 66: Halofinder$Room.bit(I)J -/
theorem hc_66 : hf_cd 66 = cX5_bit := rfl
theorem hh_66 : hf_hh 66 = [] := rfl
theorem s66_0 {u0 : Int32} : hf_rn 66 0 [some (.int u0)] st g I J = hf_rn 66 1 [some (.int u0)] (.int u0 :: st) g I J := r_nx (i := .iload_n 0) (len := 1) hc_66 (by decide +kernel) rfl rfl
theorem s66_1 {u0 : Int32} : hf_rn 66 1 [l0] (.int u0 :: st) g I J = if u0 < 0 then hf_rn 66 16 [l0] st g I J else hf_rn 66 4 [l0] st g I J := r_br (i := .ifCond .lt 15) (len := 3) hc_66 (by decide +kernel) rfl rfl (by decide)
theorem s66_4 {u0 : Int32} : hf_rn 66 4 [some (.int u0)] st g I J = hf_rn 66 5 [some (.int u0)] (.int u0 :: st) g I J := r_nx (i := .iload_n 0) (len := 1) hc_66 (by decide +kernel) rfl rfl
theorem s66_5 : hf_rn 66 5 [l0] st g I J = hf_rn 66 7 [l0] (.int 64 :: st) g I J := r_bipush (n := 64) hc_66 (by decide +kernel) (by decide)
theorem s66_7 {u0 u1 : Int32} : hf_rn 66 7 [l0] (.int u0 :: .int u1 :: st) g I J = if u0 ≤ u1 then hf_rn 66 16 [l0] st g I J else hf_rn 66 10 [l0] st g I J := r_br (i := .if_icmp .ge 9) (len := 3) hc_66 (by decide +kernel) rfl rfl (by decide)
theorem s66_10 : hf_rn 66 10 [l0] st g I J = hf_rn 66 11 [l0] (.long 1 :: st) g I J := r_lconst (n := 1) hc_66 (by decide +kernel) (by decide)
theorem s66_11 {u0 : Int32} : hf_rn 66 11 [some (.int u0)] st g I J = hf_rn 66 12 [some (.int u0)] (.int u0 :: st) g I J := r_nx (i := .iload_n 0) (len := 1) hc_66 (by decide +kernel) rfl rfl
theorem s66_12 {u0 : Int32} {u1 : Int64} : hf_rn 66 12 [l0] (.int u0 :: .long u1 :: st) g I J = hf_rn 66 13 [l0] (.long (u1 <<< (u0.toInt64 &&& 63)) :: st) g I J := r_nx (i := .lshl) (len := 1) hc_66 (by decide +kernel) rfl rfl
theorem s66_13 : hf_rn 66 13 [l0] st g I J = hf_rn 66 17 [l0] st g I J := r_go (i := .goto 4) (len := 3) hc_66 (by decide +kernel) rfl rfl (by decide)
theorem s66_16 : hf_rn 66 16 [l0] st g I J = hf_rn 66 17 [l0] (.long 0 :: st) g I J := r_lconst (n := 0) hc_66 (by decide +kernel) (by decide)
theorem s66_17 {u0 : Int64} : hf_rn 66 17 [l0] [.long u0] g I J = some (.inl (some (.long u0)), g, I, J) := r_ret1 hc_66 (by decide +kernel) (by decide +kernel)
/-! 67: Halofinder$Room.has(JI)Z -/
theorem hc_67 : hf_cd 67 = cX5_has := rfl
theorem hh_67 : hf_hh 67 = [] := rfl
theorem s67_0 {u0 : Int64} : hf_rn 67 0 [some (.long u0), l1, l2] st g I J = hf_rn 67 1 [some (.long u0), l1, l2] (.long u0 :: st) g I J := r_nx (i := .lload_n 0) (len := 1) hc_67 (by decide +kernel) rfl rfl
theorem s67_1 {u0 : Int32} : hf_rn 67 1 [l0, l1, some (.int u0)] st g I J = hf_rn 67 2 [l0, l1, some (.int u0)] (.int u0 :: st) g I J := r_nx (i := .iload_n 2) (len := 1) hc_67 (by decide +kernel) rfl rfl
theorem s67_2 {u0 : Int32} {u1 : Int64} : hf_rn 67 2 [l0, l1, l2] [.int u0, .long u1] g I J = hf_bd 67 2 [l0, l1, l2] [.long u1] (hf_rn 66 0 [some (.int u0)] [] g I J) := r_callS (ix := 26) (y := 66) (n := 1) (kd := 0) hc_67 (by decide +kernel) (by decide +kernel) (by decide +kernel) rfl rfl (Nat.le_of_ble_eq_true rfl) (Nat.le_of_ble_eq_true rfl) (Nat.le_of_ble_eq_true rfl) rfl
theorem s67_5 {u0 u1 : Int64} : hf_rn 67 5 [l0, l1, l2] (.long u0 :: .long u1 :: st) g I J = hf_rn 67 6 [l0, l1, l2] (.long (u1 &&& u0) :: st) g I J := r_nx (i := .land) (len := 1) hc_67 (by decide +kernel) rfl rfl
theorem s67_6 : hf_rn 67 6 [l0, l1, l2] st g I J = hf_rn 67 7 [l0, l1, l2] (.long 0 :: st) g I J := r_lconst (n := 0) hc_67 (by decide +kernel) (by decide)
theorem s67_7 {u0 u1 : Int64} : hf_rn 67 7 [l0, l1, l2] (.long u0 :: .long u1 :: st) g I J = hf_rn 67 8 [l0, l1, l2] (.int (lg_cmp u1 u0) :: st) g I J := r_nx (i := .lcmp) (len := 1) hc_67 (by decide +kernel) rfl rfl
theorem s67_8 {u0 : Int32} : hf_rn 67 8 [l0, l1, l2] (.int u0 :: st) g I J = if u0 = 0 then hf_rn 67 15 [l0, l1, l2] st g I J else hf_rn 67 11 [l0, l1, l2] st g I J := r_br (i := .ifCond .eq 7) (len := 3) hc_67 (by decide +kernel) rfl rfl (by decide)
theorem s67_11 : hf_rn 67 11 [l0, l1, l2] st g I J = hf_rn 67 12 [l0, l1, l2] (.int 1 :: st) g I J := r_iconst (n := 1) hc_67 (by decide +kernel) (by decide)
theorem s67_12 : hf_rn 67 12 [l0, l1, l2] st g I J = hf_rn 67 16 [l0, l1, l2] st g I J := r_go (i := .goto 4) (len := 3) hc_67 (by decide +kernel) rfl rfl (by decide)
theorem s67_15 : hf_rn 67 15 [l0, l1, l2] st g I J = hf_rn 67 16 [l0, l1, l2] (.int 0 :: st) g I J := r_iconst (n := 0) hc_67 (by decide +kernel) (by decide)
theorem s67_16 {u0 : Int32} (hx : u0 = 0 ∨ u0 = 1) : hf_rn 67 16 [l0, l1, l2] [.int u0] g I J = some (.inl (some (.int u0)), g, I, J) := r_retz hc_67 (by decide +kernel) (by decide +kernel) hx
/-! 68: Halofinder$Room.lowest(J)I -/
theorem hc_68 : hf_cd 68 = cX5_lowest := rfl
theorem hh_68 : hf_hh 68 = [] := rfl
theorem s68_0 : hf_rn 68 0 [l0, l1, l2] st g I J = hf_rn 68 1 [l0, l1, l2] (.int 0 :: st) g I J := r_iconst (n := 0) hc_68 (by decide +kernel) (by decide)
theorem s68_1 {u0 : Int32} : hf_rn 68 1 [l0, l1, l2] (.int u0 :: st) g I J = hf_rn 68 2 [l0, hf_iv l1, some (.int u0)] st g I J := r_nx (i := .istore_n 2) (len := 1) hc_68 (by decide +kernel) rfl rfl
theorem s68_2 {u0 : Int32} : hf_rn 68 2 [l0, l1, some (.int u0)] st g I J = hf_rn 68 3 [l0, l1, some (.int u0)] (.int u0 :: st) g I J := r_nx (i := .iload_n 2) (len := 1) hc_68 (by decide +kernel) rfl rfl
theorem s68_3 : hf_rn 68 3 [l0, l1, l2] st g I J = hf_rn 68 5 [l0, l1, l2] (.int 64 :: st) g I J := r_bipush (n := 64) hc_68 (by decide +kernel) (by decide)
theorem s68_5 {u0 u1 : Int32} : hf_rn 68 5 [l0, l1, l2] (.int u0 :: .int u1 :: st) g I J = if u0 ≤ u1 then hf_rn 68 24 [l0, l1, l2] st g I J else hf_rn 68 8 [l0, l1, l2] st g I J := r_br (i := .if_icmp .ge 19) (len := 3) hc_68 (by decide +kernel) rfl rfl (by decide)
theorem s68_8 {u0 : Int64} : hf_rn 68 8 [some (.long u0), l1, l2] st g I J = hf_rn 68 9 [some (.long u0), l1, l2] (.long u0 :: st) g I J := r_nx (i := .lload_n 0) (len := 1) hc_68 (by decide +kernel) rfl rfl
theorem s68_9 {u0 : Int32} : hf_rn 68 9 [l0, l1, some (.int u0)] st g I J = hf_rn 68 10 [l0, l1, some (.int u0)] (.int u0 :: st) g I J := r_nx (i := .iload_n 2) (len := 1) hc_68 (by decide +kernel) rfl rfl
theorem s68_10 {u0 : Int32} {u1 : Int64} : hf_rn 68 10 [l0, l1, l2] [.int u0, .long u1] g I J = hf_bd 68 10 [l0, l1, l2] [] (hf_rn 67 0 [some (.long u1), none, some (.int u0)] [] g I J) := r_callS (ix := 30) (y := 67) (n := 2) (kd := 0) hc_68 (by decide +kernel) (by decide +kernel) (by decide +kernel) rfl rfl (Nat.le_of_ble_eq_true rfl) (Nat.le_of_ble_eq_true rfl) (Nat.le_of_ble_eq_true rfl) rfl
theorem s68_13 {u0 : Int32} : hf_rn 68 13 [l0, l1, l2] (.int u0 :: st) g I J = if u0 = 0 then hf_rn 68 18 [l0, l1, l2] st g I J else hf_rn 68 16 [l0, l1, l2] st g I J := r_br (i := .ifCond .eq 5) (len := 3) hc_68 (by decide +kernel) rfl rfl (by decide)
theorem s68_16 {u0 : Int32} : hf_rn 68 16 [l0, l1, some (.int u0)] st g I J = hf_rn 68 17 [l0, l1, some (.int u0)] (.int u0 :: st) g I J := r_nx (i := .iload_n 2) (len := 1) hc_68 (by decide +kernel) rfl rfl
theorem s68_17 {u0 : Int32} : hf_rn 68 17 [l0, l1, l2] [.int u0] g I J = some (.inl (some (.int u0)), g, I, J) := r_ret0 hc_68 (by decide +kernel) (by decide +kernel)
theorem s68_18 {u0 : Int32} : hf_rn 68 18 [l0, l1, some (.int u0)] st g I J = hf_rn 68 21 [l0, hf_iv l1, some (.int (u0 + 1))] st g I J := r_iinc (k := 2) (n := 1) (v := 1) hc_68 (by decide +kernel) (by decide) rfl (Nat.le_of_ble_eq_true rfl) rfl
theorem s68_21 : hf_rn 68 21 [l0, l1, l2] st g I J = hf_rn 68 2 [l0, l1, l2] st g I J := r_go (i := .goto (-19)) (len := 3) hc_68 (by decide +kernel) rfl rfl (by decide)
theorem s68_24 : hf_rn 68 24 [l0, l1, l2] st g I J = hf_rn 68 25 [l0, l1, l2] (.int (-1) :: st) g I J := r_iconst (n := (-1)) hc_68 (by decide +kernel) (by decide)
theorem s68_25 {u0 : Int32} : hf_rn 68 25 [l0, l1, l2] [.int u0] g I J = some (.inl (some (.int u0)), g, I, J) := r_ret0 hc_68 (by decide +kernel) (by decide +kernel)
end
