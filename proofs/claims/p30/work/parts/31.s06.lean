section
variable {l0 l1 l2 l3 l4 l5 l6 l7 l8 l9 l10 l11 l12 l13 l14 l15 l16 l17 : Option Value} {st : List Value} {g : hf_G} {I : hf_I} {J : hf_J}
/-! 69: Halofinder$Row.<init>(I)V -/
theorem hc_69 : hf_cd 69 = cX6_init := rfl
theorem hh_69 : hf_hh 69 = [] := rfl
theorem s69_0 {u0 : Nat} : hf_rn 69 0 [some (.ref u0), l1] st g I J = hf_rn 69 1 [some (.ref u0), l1] (.ref u0 :: st) g I J := r_nx (i := .aload_n 0) (len := 1) hc_69 (by decide +kernel) rfl rfl
theorem s69_1 {u0 : Nat} : hf_rn 69 1 [l0, l1] [.ref u0] g I J = hf_rn 69 4 [l0, l1] [] g I J := r_oinit (ix := 1) hc_69 (by decide +kernel) (by decide +kernel) (by decide +kernel) (Nat.le_of_ble_eq_true rfl)
theorem s69_4 {u0 : Nat} : hf_rn 69 4 [some (.ref u0), l1] st g I J = hf_rn 69 5 [some (.ref u0), l1] (.ref u0 :: st) g I J := r_nx (i := .aload_n 0) (len := 1) hc_69 (by decide +kernel) rfl rfl
theorem s69_5 : hf_rn 69 5 [l0, l1] st g I J = hf_rn 69 6 [l0, l1] (.int 0 :: st) g I J := r_iconst (n := 0) hc_69 (by decide +kernel) (by decide)
theorem s69_6 {u0 : Int32} : hf_rn 69 6 [l0, some (.int u0)] st g I J = hf_rn 69 7 [l0, some (.int u0)] (.int u0 :: st) g I J := r_nx (i := .iload_n 1) (len := 1) hc_69 (by decide +kernel) rfl rfl
theorem s69_7 {u0 : Int32} {u1 : Int32} {u2 : Nat} : hf_rn 69 7 [l0, l1] [.int u0, .int u1, .ref u2] g I J = hf_bd 69 7 [l0, l1] [.ref u2] (hf_rn 149 0 [some (.int u1), some (.int u0)] [] g I J) := r_callS (ix := 7) (y := 149) (n := 2) (kd := 0) hc_69 (by decide +kernel) (by decide +kernel) (by decide +kernel) rfl rfl (Nat.le_of_ble_eq_true rfl) (Nat.le_of_ble_eq_true rfl) (Nat.le_of_ble_eq_true rfl) rfl
theorem s69_10 {u0 : Int32} (h1 : ¬ u0 < 0) (h2 : u0.toNatClampNeg ≤ 100000) (he : hf_e g = true) (hn : hf_n g < 1000000) : hf_rn 69 10 [l0, l1] (.int u0 :: st) g I J = hf_rn 69 12 [l0, l1] (.ref (hf_n g) :: st) (hf_mk g (3, u0.toNatClampNeg) u0.toNatClampNeg) (hf_w I (hf_n g) (fun _ => 0)) (hf_w J (hf_n g) (fun _ => 0)) := r_newa (t := .long) hc_69 (by decide +kernel) (by decide) h1 h2 he hn
theorem s69_12 {u0 : Nat} {u1 : Nat} (hk : hf_k g u1 = (0, 5)) : hf_rn 69 12 [l0, l1] (.ref u0 :: .ref u1 :: st) g I J = hf_rn 69 15 [l0, l1] st (hf_sr g u1 0 (some u0)) I J := r_putR (ix := 13) (kd := 0) hc_69 (by decide +kernel) (by decide +kernel) (by decide +kernel) (by decide +kernel) hk
theorem s69_15 : hf_rn 69 15 [l0, l1] [] g I J = some (.inl none, g, I, J) := r_ret3 hc_69 (by decide +kernel) (by decide +kernel)
/-! 70: Halofinder$Row.get(I)J -/
theorem hc_70 : hf_cd 70 = cX6_get := rfl
theorem hh_70 : hf_hh 70 = [] := rfl
theorem s70_0 {u0 : Int32} : hf_rn 70 0 [l0, some (.int u0)] st g I J = hf_rn 70 1 [l0, some (.int u0)] (.int u0 :: st) g I J := r_nx (i := .iload_n 1) (len := 1) hc_70 (by decide +kernel) rfl rfl
theorem s70_1 {u0 : Int32} : hf_rn 70 1 [l0, l1] (.int u0 :: st) g I J = if u0 < 0 then hf_rn 70 22 [l0, l1] st g I J else hf_rn 70 4 [l0, l1] st g I J := r_br (i := .ifCond .lt 21) (len := 3) hc_70 (by decide +kernel) rfl rfl (by decide)
theorem s70_4 {u0 : Int32} : hf_rn 70 4 [l0, some (.int u0)] st g I J = hf_rn 70 5 [l0, some (.int u0)] (.int u0 :: st) g I J := r_nx (i := .iload_n 1) (len := 1) hc_70 (by decide +kernel) rfl rfl
theorem s70_5 {u0 : Nat} : hf_rn 70 5 [some (.ref u0), l1] st g I J = hf_rn 70 6 [some (.ref u0), l1] (.ref u0 :: st) g I J := r_nx (i := .aload_n 0) (len := 1) hc_70 (by decide +kernel) rfl rfl
theorem s70_6 {u0 : Nat} (hk : hf_k g u0 = (0, 5)) (hr : (hf_r g u0 0).isSome = true) : hf_rn 70 6 [l0, l1] (.ref u0 :: st) g I J = hf_rn 70 9 [l0, l1] (.ref ((hf_r g u0 0).getD 0) :: st) g I J := r_getR (ix := 13) (kd := 0) hc_70 (by decide +kernel) (by decide +kernel) (by decide +kernel) (by decide +kernel) hk hr
theorem s70_9 {u0 : Nat} (hk : 2 ≤ (hf_k g u0).1 ∧ (hf_k g u0).1 ≤ 6) (hn : (hf_k g u0).2 < 2147483648) : hf_rn 70 9 [l0, l1] (.ref u0 :: st) g I J = hf_rn 70 10 [l0, l1] (.int (nI (hf_k g u0).2) :: st) g I J := r_alen hc_70 (by decide +kernel) hk hn
theorem s70_10 {u0 u1 : Int32} : hf_rn 70 10 [l0, l1] (.int u0 :: .int u1 :: st) g I J = if u0 ≤ u1 then hf_rn 70 22 [l0, l1] st g I J else hf_rn 70 13 [l0, l1] st g I J := r_br (i := .if_icmp .ge 12) (len := 3) hc_70 (by decide +kernel) rfl rfl (by decide)
theorem s70_13 {u0 : Nat} : hf_rn 70 13 [some (.ref u0), l1] st g I J = hf_rn 70 14 [some (.ref u0), l1] (.ref u0 :: st) g I J := r_nx (i := .aload_n 0) (len := 1) hc_70 (by decide +kernel) rfl rfl
theorem s70_14 {u0 : Nat} (hk : hf_k g u0 = (0, 5)) (hr : (hf_r g u0 0).isSome = true) : hf_rn 70 14 [l0, l1] (.ref u0 :: st) g I J = hf_rn 70 17 [l0, l1] (.ref ((hf_r g u0 0).getD 0) :: st) g I J := r_getR (ix := 13) (kd := 0) hc_70 (by decide +kernel) (by decide +kernel) (by decide +kernel) (by decide +kernel) hk hr
theorem s70_17 {u0 : Int32} : hf_rn 70 17 [l0, some (.int u0)] st g I J = hf_rn 70 18 [l0, some (.int u0)] (.int u0 :: st) g I J := r_nx (i := .iload_n 1) (len := 1) hc_70 (by decide +kernel) rfl rfl
theorem s70_18 {u0 : Int32} {u1 : Nat} (hk : (hf_k g u1).1 = 3) (hi : hf_in u0 (hf_k g u1).2 = true) : hf_rn 70 18 [l0, l1] (.int u0 :: .ref u1 :: st) g I J = hf_rn 70 19 [l0, l1] (.long (J u1 u0.toNatClampNeg) :: st) g I J := r_lald hc_70 (by decide +kernel) hk hi
theorem s70_19 : hf_rn 70 19 [l0, l1] st g I J = hf_rn 70 23 [l0, l1] st g I J := r_go (i := .goto 4) (len := 3) hc_70 (by decide +kernel) rfl rfl (by decide)
theorem s70_22 : hf_rn 70 22 [l0, l1] st g I J = hf_rn 70 23 [l0, l1] (.long 0 :: st) g I J := r_lconst (n := 0) hc_70 (by decide +kernel) (by decide)
theorem s70_23 {u0 : Int64} : hf_rn 70 23 [l0, l1] [.long u0] g I J = some (.inl (some (.long u0)), g, I, J) := r_ret1 hc_70 (by decide +kernel) (by decide +kernel)
/-! 71: Halofinder$Row.set(IJ)V -/
theorem hc_71 : hf_cd 71 = cX6_set := rfl
theorem hh_71 : hf_hh 71 = [] := rfl
theorem s71_0 {u0 : Int32} : hf_rn 71 0 [l0, some (.int u0), l2, l3] st g I J = hf_rn 71 1 [l0, some (.int u0), l2, l3] (.int u0 :: st) g I J := r_nx (i := .iload_n 1) (len := 1) hc_71 (by decide +kernel) rfl rfl
theorem s71_1 {u0 : Int32} : hf_rn 71 1 [l0, l1, l2, l3] (.int u0 :: st) g I J = if u0 < 0 then hf_rn 71 20 [l0, l1, l2, l3] st g I J else hf_rn 71 4 [l0, l1, l2, l3] st g I J := r_br (i := .ifCond .lt 19) (len := 3) hc_71 (by decide +kernel) rfl rfl (by decide)
theorem s71_4 {u0 : Int32} : hf_rn 71 4 [l0, some (.int u0), l2, l3] st g I J = hf_rn 71 5 [l0, some (.int u0), l2, l3] (.int u0 :: st) g I J := r_nx (i := .iload_n 1) (len := 1) hc_71 (by decide +kernel) rfl rfl
theorem s71_5 {u0 : Nat} : hf_rn 71 5 [some (.ref u0), l1, l2, l3] st g I J = hf_rn 71 6 [some (.ref u0), l1, l2, l3] (.ref u0 :: st) g I J := r_nx (i := .aload_n 0) (len := 1) hc_71 (by decide +kernel) rfl rfl
theorem s71_6 {u0 : Nat} (hk : hf_k g u0 = (0, 5)) (hr : (hf_r g u0 0).isSome = true) : hf_rn 71 6 [l0, l1, l2, l3] (.ref u0 :: st) g I J = hf_rn 71 9 [l0, l1, l2, l3] (.ref ((hf_r g u0 0).getD 0) :: st) g I J := r_getR (ix := 13) (kd := 0) hc_71 (by decide +kernel) (by decide +kernel) (by decide +kernel) (by decide +kernel) hk hr
theorem s71_9 {u0 : Nat} (hk : 2 ≤ (hf_k g u0).1 ∧ (hf_k g u0).1 ≤ 6) (hn : (hf_k g u0).2 < 2147483648) : hf_rn 71 9 [l0, l1, l2, l3] (.ref u0 :: st) g I J = hf_rn 71 10 [l0, l1, l2, l3] (.int (nI (hf_k g u0).2) :: st) g I J := r_alen hc_71 (by decide +kernel) hk hn
theorem s71_10 {u0 u1 : Int32} : hf_rn 71 10 [l0, l1, l2, l3] (.int u0 :: .int u1 :: st) g I J = if u0 ≤ u1 then hf_rn 71 20 [l0, l1, l2, l3] st g I J else hf_rn 71 13 [l0, l1, l2, l3] st g I J := r_br (i := .if_icmp .ge 10) (len := 3) hc_71 (by decide +kernel) rfl rfl (by decide)
theorem s71_13 {u0 : Nat} : hf_rn 71 13 [some (.ref u0), l1, l2, l3] st g I J = hf_rn 71 14 [some (.ref u0), l1, l2, l3] (.ref u0 :: st) g I J := r_nx (i := .aload_n 0) (len := 1) hc_71 (by decide +kernel) rfl rfl
theorem s71_14 {u0 : Nat} (hk : hf_k g u0 = (0, 5)) (hr : (hf_r g u0 0).isSome = true) : hf_rn 71 14 [l0, l1, l2, l3] (.ref u0 :: st) g I J = hf_rn 71 17 [l0, l1, l2, l3] (.ref ((hf_r g u0 0).getD 0) :: st) g I J := r_getR (ix := 13) (kd := 0) hc_71 (by decide +kernel) (by decide +kernel) (by decide +kernel) (by decide +kernel) hk hr
theorem s71_17 {u0 : Int32} : hf_rn 71 17 [l0, some (.int u0), l2, l3] st g I J = hf_rn 71 18 [l0, some (.int u0), l2, l3] (.int u0 :: st) g I J := r_nx (i := .iload_n 1) (len := 1) hc_71 (by decide +kernel) rfl rfl
theorem s71_18 {u0 : Int64} : hf_rn 71 18 [l0, l1, some (.long u0), l3] st g I J = hf_rn 71 19 [l0, l1, some (.long u0), l3] (.long u0 :: st) g I J := r_nx (i := .lload_n 2) (len := 1) hc_71 (by decide +kernel) rfl rfl
theorem s71_19 {u0 : Int64} {u1 : Int32} {u2 : Nat} (hk : (hf_k g u2).1 = 3) (hi : hf_in u1 (hf_k g u2).2 = true) : hf_rn 71 19 [l0, l1, l2, l3] (.long u0 :: .int u1 :: .ref u2 :: st) g I J = hf_rn 71 20 [l0, l1, l2, l3] st g I (hf_u J u2 u1.toNatClampNeg u0) := r_last hc_71 (by decide +kernel) hk hi
theorem s71_20 : hf_rn 71 20 [l0, l1, l2, l3] [] g I J = some (.inl none, g, I, J) := r_ret3 hc_71 (by decide +kernel) (by decide +kernel)
/-! 72: Halofinder$Row.add(IJ)V -/
theorem hc_72 : hf_cd 72 = cX6_add := rfl
theorem hh_72 : hf_hh 72 = [] := rfl
theorem s72_0 {u0 : Int32} : hf_rn 72 0 [l0, some (.int u0), l2, l3] st g I J = hf_rn 72 1 [l0, some (.int u0), l2, l3] (.int u0 :: st) g I J := r_nx (i := .iload_n 1) (len := 1) hc_72 (by decide +kernel) rfl rfl
theorem s72_1 {u0 : Int32} : hf_rn 72 1 [l0, l1, l2, l3] (.int u0 :: st) g I J = if u0 < 0 then hf_rn 72 23 [l0, l1, l2, l3] st g I J else hf_rn 72 4 [l0, l1, l2, l3] st g I J := r_br (i := .ifCond .lt 22) (len := 3) hc_72 (by decide +kernel) rfl rfl (by decide)
theorem s72_4 {u0 : Int32} : hf_rn 72 4 [l0, some (.int u0), l2, l3] st g I J = hf_rn 72 5 [l0, some (.int u0), l2, l3] (.int u0 :: st) g I J := r_nx (i := .iload_n 1) (len := 1) hc_72 (by decide +kernel) rfl rfl
theorem s72_5 {u0 : Nat} : hf_rn 72 5 [some (.ref u0), l1, l2, l3] st g I J = hf_rn 72 6 [some (.ref u0), l1, l2, l3] (.ref u0 :: st) g I J := r_nx (i := .aload_n 0) (len := 1) hc_72 (by decide +kernel) rfl rfl
theorem s72_6 {u0 : Nat} (hk : hf_k g u0 = (0, 5)) (hr : (hf_r g u0 0).isSome = true) : hf_rn 72 6 [l0, l1, l2, l3] (.ref u0 :: st) g I J = hf_rn 72 9 [l0, l1, l2, l3] (.ref ((hf_r g u0 0).getD 0) :: st) g I J := r_getR (ix := 13) (kd := 0) hc_72 (by decide +kernel) (by decide +kernel) (by decide +kernel) (by decide +kernel) hk hr
theorem s72_9 {u0 : Nat} (hk : 2 ≤ (hf_k g u0).1 ∧ (hf_k g u0).1 ≤ 6) (hn : (hf_k g u0).2 < 2147483648) : hf_rn 72 9 [l0, l1, l2, l3] (.ref u0 :: st) g I J = hf_rn 72 10 [l0, l1, l2, l3] (.int (nI (hf_k g u0).2) :: st) g I J := r_alen hc_72 (by decide +kernel) hk hn
theorem s72_10 {u0 u1 : Int32} : hf_rn 72 10 [l0, l1, l2, l3] (.int u0 :: .int u1 :: st) g I J = if u0 ≤ u1 then hf_rn 72 23 [l0, l1, l2, l3] st g I J else hf_rn 72 13 [l0, l1, l2, l3] st g I J := r_br (i := .if_icmp .ge 13) (len := 3) hc_72 (by decide +kernel) rfl rfl (by decide)
theorem s72_13 {u0 : Nat} : hf_rn 72 13 [some (.ref u0), l1, l2, l3] st g I J = hf_rn 72 14 [some (.ref u0), l1, l2, l3] (.ref u0 :: st) g I J := r_nx (i := .aload_n 0) (len := 1) hc_72 (by decide +kernel) rfl rfl
theorem s72_14 {u0 : Nat} (hk : hf_k g u0 = (0, 5)) (hr : (hf_r g u0 0).isSome = true) : hf_rn 72 14 [l0, l1, l2, l3] (.ref u0 :: st) g I J = hf_rn 72 17 [l0, l1, l2, l3] (.ref ((hf_r g u0 0).getD 0) :: st) g I J := r_getR (ix := 13) (kd := 0) hc_72 (by decide +kernel) (by decide +kernel) (by decide +kernel) (by decide +kernel) hk hr
theorem s72_17 {u0 : Int32} : hf_rn 72 17 [l0, some (.int u0), l2, l3] st g I J = hf_rn 72 18 [l0, some (.int u0), l2, l3] (.int u0 :: st) g I J := r_nx (i := .iload_n 1) (len := 1) hc_72 (by decide +kernel) rfl rfl
theorem s72_18 {u0 : Int32} {u1 : Nat} : hf_rn 72 18 [l0, l1, l2, l3] (.int u0 :: .ref u1 :: st) g I J = hf_rn 72 19 [l0, l1, l2, l3] (.int u0 :: .ref u1 :: .int u0 :: .ref u1 :: st) g I J := r_nx (i := .dup2) (len := 1) hc_72 (by decide +kernel) rfl rfl
theorem s72_19 {u0 : Int32} {u1 : Nat} (hk : (hf_k g u1).1 = 3) (hi : hf_in u0 (hf_k g u1).2 = true) : hf_rn 72 19 [l0, l1, l2, l3] (.int u0 :: .ref u1 :: st) g I J = hf_rn 72 20 [l0, l1, l2, l3] (.long (J u1 u0.toNatClampNeg) :: st) g I J := r_lald hc_72 (by decide +kernel) hk hi
theorem s72_20 {u0 : Int64} : hf_rn 72 20 [l0, l1, some (.long u0), l3] st g I J = hf_rn 72 21 [l0, l1, some (.long u0), l3] (.long u0 :: st) g I J := r_nx (i := .lload_n 2) (len := 1) hc_72 (by decide +kernel) rfl rfl
theorem s72_21 {u0 u1 : Int64} : hf_rn 72 21 [l0, l1, l2, l3] (.long u0 :: .long u1 :: st) g I J = hf_rn 72 22 [l0, l1, l2, l3] (.long (u1 + u0) :: st) g I J := r_nx (i := .ladd) (len := 1) hc_72 (by decide +kernel) rfl rfl
theorem s72_22 {u0 : Int64} {u1 : Int32} {u2 : Nat} (hk : (hf_k g u2).1 = 3) (hi : hf_in u1 (hf_k g u2).2 = true) : hf_rn 72 22 [l0, l1, l2, l3] (.long u0 :: .int u1 :: .ref u2 :: st) g I J = hf_rn 72 23 [l0, l1, l2, l3] st g I (hf_u J u2 u1.toNatClampNeg u0) := r_last hc_72 (by decide +kernel) hk hi
theorem s72_23 : hf_rn 72 23 [l0, l1, l2, l3] [] g I J = some (.inl none, g, I, J) := r_ret3 hc_72 (by decide +kernel) (by decide +kernel)
/-! 73: Halofinder$Row.fill(J)V -/
theorem hc_73 : hf_cd 73 = cX6_fill := rfl
theorem hh_73 : hf_hh 73 = [] := rfl
theorem s73_0 : hf_rn 73 0 [l0, l1, l2, l3] st g I J = hf_rn 73 1 [l0, l1, l2, l3] (.int 0 :: st) g I J := r_iconst (n := 0) hc_73 (by decide +kernel) (by decide)
theorem s73_1 {u0 : Int32} : hf_rn 73 1 [l0, l1, l2, l3] (.int u0 :: st) g I J = hf_rn 73 2 [l0, l1, hf_iv l2, some (.int u0)] st g I J := r_nx (i := .istore_n 3) (len := 1) hc_73 (by decide +kernel) rfl rfl
theorem s73_2 {u0 : Int32} : hf_rn 73 2 [l0, l1, l2, some (.int u0)] st g I J = hf_rn 73 3 [l0, l1, l2, some (.int u0)] (.int u0 :: st) g I J := r_nx (i := .iload_n 3) (len := 1) hc_73 (by decide +kernel) rfl rfl
theorem s73_3 {u0 : Nat} : hf_rn 73 3 [some (.ref u0), l1, l2, l3] st g I J = hf_rn 73 4 [some (.ref u0), l1, l2, l3] (.ref u0 :: st) g I J := r_nx (i := .aload_n 0) (len := 1) hc_73 (by decide +kernel) rfl rfl
theorem s73_4 {u0 : Nat} (hk : hf_k g u0 = (0, 5)) (hr : (hf_r g u0 0).isSome = true) : hf_rn 73 4 [l0, l1, l2, l3] (.ref u0 :: st) g I J = hf_rn 73 7 [l0, l1, l2, l3] (.ref ((hf_r g u0 0).getD 0) :: st) g I J := r_getR (ix := 13) (kd := 0) hc_73 (by decide +kernel) (by decide +kernel) (by decide +kernel) (by decide +kernel) hk hr
theorem s73_7 {u0 : Nat} (hk : 2 ≤ (hf_k g u0).1 ∧ (hf_k g u0).1 ≤ 6) (hn : (hf_k g u0).2 < 2147483648) : hf_rn 73 7 [l0, l1, l2, l3] (.ref u0 :: st) g I J = hf_rn 73 8 [l0, l1, l2, l3] (.int (nI (hf_k g u0).2) :: st) g I J := r_alen hc_73 (by decide +kernel) hk hn
theorem s73_8 {u0 u1 : Int32} : hf_rn 73 8 [l0, l1, l2, l3] (.int u0 :: .int u1 :: st) g I J = if u0 ≤ u1 then hf_rn 73 24 [l0, l1, l2, l3] st g I J else hf_rn 73 11 [l0, l1, l2, l3] st g I J := r_br (i := .if_icmp .ge 16) (len := 3) hc_73 (by decide +kernel) rfl rfl (by decide)
theorem s73_11 {u0 : Nat} : hf_rn 73 11 [some (.ref u0), l1, l2, l3] st g I J = hf_rn 73 12 [some (.ref u0), l1, l2, l3] (.ref u0 :: st) g I J := r_nx (i := .aload_n 0) (len := 1) hc_73 (by decide +kernel) rfl rfl
theorem s73_12 {u0 : Nat} (hk : hf_k g u0 = (0, 5)) (hr : (hf_r g u0 0).isSome = true) : hf_rn 73 12 [l0, l1, l2, l3] (.ref u0 :: st) g I J = hf_rn 73 15 [l0, l1, l2, l3] (.ref ((hf_r g u0 0).getD 0) :: st) g I J := r_getR (ix := 13) (kd := 0) hc_73 (by decide +kernel) (by decide +kernel) (by decide +kernel) (by decide +kernel) hk hr
theorem s73_15 {u0 : Int32} : hf_rn 73 15 [l0, l1, l2, some (.int u0)] st g I J = hf_rn 73 16 [l0, l1, l2, some (.int u0)] (.int u0 :: st) g I J := r_nx (i := .iload_n 3) (len := 1) hc_73 (by decide +kernel) rfl rfl
theorem s73_16 {u0 : Int64} : hf_rn 73 16 [l0, some (.long u0), l2, l3] st g I J = hf_rn 73 17 [l0, some (.long u0), l2, l3] (.long u0 :: st) g I J := r_nx (i := .lload_n 1) (len := 1) hc_73 (by decide +kernel) rfl rfl
theorem s73_17 {u0 : Int64} {u1 : Int32} {u2 : Nat} (hk : (hf_k g u2).1 = 3) (hi : hf_in u1 (hf_k g u2).2 = true) : hf_rn 73 17 [l0, l1, l2, l3] (.long u0 :: .int u1 :: .ref u2 :: st) g I J = hf_rn 73 18 [l0, l1, l2, l3] st g I (hf_u J u2 u1.toNatClampNeg u0) := r_last hc_73 (by decide +kernel) hk hi
theorem s73_18 {u0 : Int32} : hf_rn 73 18 [l0, l1, l2, some (.int u0)] st g I J = hf_rn 73 21 [l0, l1, hf_iv l2, some (.int (u0 + 1))] st g I J := r_iinc (k := 3) (n := 1) (v := 1) hc_73 (by decide +kernel) (by decide) rfl (Nat.le_of_ble_eq_true rfl) rfl
theorem s73_21 : hf_rn 73 21 [l0, l1, l2, l3] st g I J = hf_rn 73 2 [l0, l1, l2, l3] st g I J := r_go (i := .goto (-19)) (len := 3) hc_73 (by decide +kernel) rfl rfl (by decide)
theorem s73_24 : hf_rn 73 24 [l0, l1, l2, l3] [] g I J = some (.inl none, g, I, J) := r_ret3 hc_73 (by decide +kernel) (by decide +kernel)
/-! 74: Halofinder$Row.copy(LHalofinder$Row;)V -/
theorem hc_74 : hf_cd 74 = cX6_copy := rfl
theorem hh_74 : hf_hh 74 = [] := rfl
theorem s74_0 : hf_rn 74 0 [l0, l1, l2] st g I J = hf_rn 74 1 [l0, l1, l2] (.int 0 :: st) g I J := r_iconst (n := 0) hc_74 (by decide +kernel) (by decide)
theorem s74_1 {u0 : Int32} : hf_rn 74 1 [l0, l1, l2] (.int u0 :: st) g I J = hf_rn 74 2 [l0, hf_iv l1, some (.int u0)] st g I J := r_nx (i := .istore_n 2) (len := 1) hc_74 (by decide +kernel) rfl rfl
theorem s74_2 {u0 : Int32} : hf_rn 74 2 [l0, l1, some (.int u0)] st g I J = hf_rn 74 3 [l0, l1, some (.int u0)] (.int u0 :: st) g I J := r_nx (i := .iload_n 2) (len := 1) hc_74 (by decide +kernel) rfl rfl
theorem s74_3 {u0 : Nat} : hf_rn 74 3 [some (.ref u0), l1, l2] st g I J = hf_rn 74 4 [some (.ref u0), l1, l2] (.ref u0 :: st) g I J := r_nx (i := .aload_n 0) (len := 1) hc_74 (by decide +kernel) rfl rfl
theorem s74_4 {u0 : Nat} (hk : hf_k g u0 = (0, 5)) (hr : (hf_r g u0 0).isSome = true) : hf_rn 74 4 [l0, l1, l2] (.ref u0 :: st) g I J = hf_rn 74 7 [l0, l1, l2] (.ref ((hf_r g u0 0).getD 0) :: st) g I J := r_getR (ix := 13) (kd := 0) hc_74 (by decide +kernel) (by decide +kernel) (by decide +kernel) (by decide +kernel) hk hr
theorem s74_7 {u0 : Nat} (hk : 2 ≤ (hf_k g u0).1 ∧ (hf_k g u0).1 ≤ 6) (hn : (hf_k g u0).2 < 2147483648) : hf_rn 74 7 [l0, l1, l2] (.ref u0 :: st) g I J = hf_rn 74 8 [l0, l1, l2] (.int (nI (hf_k g u0).2) :: st) g I J := r_alen hc_74 (by decide +kernel) hk hn
theorem s74_8 {u0 u1 : Int32} : hf_rn 74 8 [l0, l1, l2] (.int u0 :: .int u1 :: st) g I J = if u0 ≤ u1 then hf_rn 74 28 [l0, l1, l2] st g I J else hf_rn 74 11 [l0, l1, l2] st g I J := r_br (i := .if_icmp .ge 20) (len := 3) hc_74 (by decide +kernel) rfl rfl (by decide)
theorem s74_11 {u0 : Nat} : hf_rn 74 11 [some (.ref u0), l1, l2] st g I J = hf_rn 74 12 [some (.ref u0), l1, l2] (.ref u0 :: st) g I J := r_nx (i := .aload_n 0) (len := 1) hc_74 (by decide +kernel) rfl rfl
theorem s74_12 {u0 : Nat} (hk : hf_k g u0 = (0, 5)) (hr : (hf_r g u0 0).isSome = true) : hf_rn 74 12 [l0, l1, l2] (.ref u0 :: st) g I J = hf_rn 74 15 [l0, l1, l2] (.ref ((hf_r g u0 0).getD 0) :: st) g I J := r_getR (ix := 13) (kd := 0) hc_74 (by decide +kernel) (by decide +kernel) (by decide +kernel) (by decide +kernel) hk hr
theorem s74_15 {u0 : Int32} : hf_rn 74 15 [l0, l1, some (.int u0)] st g I J = hf_rn 74 16 [l0, l1, some (.int u0)] (.int u0 :: st) g I J := r_nx (i := .iload_n 2) (len := 1) hc_74 (by decide +kernel) rfl rfl
theorem s74_16 {u0 : Nat} : hf_rn 74 16 [l0, some (.ref u0), l2] st g I J = hf_rn 74 17 [l0, some (.ref u0), l2] (.ref u0 :: st) g I J := r_nx (i := .aload_n 1) (len := 1) hc_74 (by decide +kernel) rfl rfl
theorem s74_17 {u0 : Int32} : hf_rn 74 17 [l0, l1, some (.int u0)] st g I J = hf_rn 74 18 [l0, l1, some (.int u0)] (.int u0 :: st) g I J := r_nx (i := .iload_n 2) (len := 1) hc_74 (by decide +kernel) rfl rfl
theorem s74_18 {u0 : Int32} {u1 : Nat} {u2 : Int32} {u3 : Nat} (hk : hf_k g u1 = (0, 5)) : hf_rn 74 18 [l0, l1, l2] [.int u0, .ref u1, .int u2, .ref u3] g I J = hf_bd 74 18 [l0, l1, l2] [.int u2, .ref u3] (hf_rn 70 0 [some (.ref u1), some (.int u0)] [] g I J) := r_callV (ix := 19) (y := 70) (n := 1) (kd := 1) (ci := 5) hc_74 (by decide +kernel) (by decide +kernel) (by decide +kernel) rfl rfl (Nat.le_of_ble_eq_true rfl) (Nat.le_of_ble_eq_true rfl) (Nat.le_of_ble_eq_true rfl) rfl hk
theorem s74_21 {u0 : Int64} {u1 : Int32} {u2 : Nat} (hk : (hf_k g u2).1 = 3) (hi : hf_in u1 (hf_k g u2).2 = true) : hf_rn 74 21 [l0, l1, l2] (.long u0 :: .int u1 :: .ref u2 :: st) g I J = hf_rn 74 22 [l0, l1, l2] st g I (hf_u J u2 u1.toNatClampNeg u0) := r_last hc_74 (by decide +kernel) hk hi
theorem s74_22 {u0 : Int32} : hf_rn 74 22 [l0, l1, some (.int u0)] st g I J = hf_rn 74 25 [l0, hf_iv l1, some (.int (u0 + 1))] st g I J := r_iinc (k := 2) (n := 1) (v := 1) hc_74 (by decide +kernel) (by decide) rfl (Nat.le_of_ble_eq_true rfl) rfl
theorem s74_25 : hf_rn 74 25 [l0, l1, l2] st g I J = hf_rn 74 2 [l0, l1, l2] st g I J := r_go (i := .goto (-23)) (len := 3) hc_74 (by decide +kernel) rfl rfl (by decide)
theorem s74_28 : hf_rn 74 28 [l0, l1, l2] [] g I J = some (.inl none, g, I, J) := r_ret3 hc_74 (by decide +kernel) (by decide +kernel)
end
