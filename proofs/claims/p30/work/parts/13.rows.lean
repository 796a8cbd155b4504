/-! ONE STEP AT A ROW, AND WHAT IS MADE -/
section
variable {w : hf_W} {mi : Nat} {p : Program} {l : Launch} {e : Env} {R : Room} {s : State} {m : MethodId} {args : Array Value} {below : List Frame} {meth : Method} {c : Code}
variable {c0 s0 : Nat} {Q : State → Prop} {pc pc1 : Nat} {L L1 : hf_Lo} {st st1 r : List Value} {g g1 : hf_G} {I I1 : hf_I} {J J1 : hf_J} {H : Heap}
/-- a row that lies elsewhere -/
theorem hf_T_at {t N : Nat} {f : Nat → Int32} {U : State} {H0 H : Heap} (h : va_T .int t N (fun j => .int (f j)) (hf_A w) U H0) (hq : ∀ a : Nat, a < H0.size → ¬ hf_A w a → H[a]? = H0[a]?) :
    ∃ cell : Cell, H[t]? = some cell ∧ U.isArrayOf cell .int ∧ cell.vm ≠ .unknown ∧ N ≤ cell.slots.size ∧ cell.slots.size.toInt32 = Int32.ofNat N ∧ ∀ j : Nat, j < N → cell.slots[j]? = some (.int (f j)) := by
  obtain ⟨cell, h1, h2, h3, h4, h5, h6, h7⟩ := h
  exact ⟨cell, by rw [hq t (Array.getElem?_eq_some_iff.mp h1).1 h7]; exact h1, h2, h3, h4, h5, h6⟩
theorem hl_iald {a : Nat} {i : Int32} (hC : hf_C w mi p l R s m args meth c) (hd : decode (hf_cd mi) pc = .ok (.iaload, 1)) (hk : (hf_k g a).1 = 2 ∨ (hf_k g a).1 = 6) (hin : hf_in i (hf_k g a).2 = true)
    (k : hf_at w mi p l e R s m args below meth c c0 s0 Q (pc + 1) L (.int (I a i.toNatClampNeg) :: r) g I J) : hf_at w mi p l e R s m args below meth c c0 s0 Q pc L (.int i :: .ref a :: r) g I J := by
  obtain ⟨hx0, hb, hr, hml, hown, hts, hlk, htab, hnm, hfr, hlo, hKW, hst⟩ := hC
  intro H locs ls cells slots hH hS hL hc hs hx
  have kk := k H locs ls cells slots hH hS hL hc hs hx
  rcases hk with hk | hk
  · exact va_iald hx0 hb hKW.1 hH.P (hf_ps g a) 0 (hf_wl_2 hH hk) rfl (hf_vp hin) hd kk
  · rcases hH.2.2.1 a hk with rfl | rfl
    · obtain ⟨cell, h1, h2, h3, h4, h5, h6⟩ := hf_T_at hKW.2.2.2.1 hS.2.1
      rw [hH.2.2.2.1] at hin
      have hv := hf_vp hin
      have hlt : i.toNatClampNeg < hf_xl w := Nat.lt_of_not_le (fun q => hv (Or.inr q))
      have hI : I 1000001 i.toNatClampNeg = hf_xs w i.toNatClampNeg := hH.2.2.2.2.2.1 _
      rw [hI] at kk
      exact W.iald hx0 hb h1 h2 h3 (fun q => hv (q.imp id (fun z => Nat.le_trans h4 z))) (h6 _ hlt) (g := F0 m pc ls ((.int i :: .ref 1000001 :: r).map (hf_tv w))) rfl rfl hd kk
    · obtain ⟨cell, h1, h2, h3, h4, h5, h6⟩ := hf_T_at hKW.2.2.1 hS.2.1
      rw [hH.2.2.2.2.1] at hin
      have hv := hf_vp hin
      have hlt : i.toNatClampNeg < 16 := Nat.lt_of_not_le (fun q => hv (Or.inr q))
      have hI : I 1000002 i.toNatClampNeg = hf_wave i.toNatClampNeg := hH.2.2.2.2.2.2.1 _
      rw [hI] at kk
      exact W.iald hx0 hb h1 h2 h3 (fun q => hv (q.imp id (fun z => Nat.le_trans h4 z))) (h6 _ hlt) (g := F0 m pc ls ((.int i :: .ref 1000002 :: r).map (hf_tv w))) rfl rfl hd kk
theorem hl_lald {a : Nat} {i : Int32} (hC : hf_C w mi p l R s m args meth c) (hd : decode (hf_cd mi) pc = .ok (.laload, 1)) (hk : (hf_k g a).1 = 3) (hin : hf_in i (hf_k g a).2 = true)
    (k : hf_at w mi p l e R s m args below meth c c0 s0 Q (pc + 1) L (.long (J a i.toNatClampNeg) :: r) g I J) : hf_at w mi p l e R s m args below meth c c0 s0 Q pc L (.int i :: .ref a :: r) g I J := by
  obtain ⟨hx0, hb, hr, hml, hown, hts, hlk, htab, hnm, hfr, hlo, hKW, hst⟩ := hC
  intro H locs ls cells slots hH hS hL hc hs hx
  exact va_lald hx0 hb hKW.1 hH.P (hf_ps g a) 1 (hf_wl_3 hH hk) rfl (hf_vp hin) hd (k H locs ls cells slots hH hS hL hc hs hx)
theorem hl_aald {a x : Nat} {i : Int32} (hC : hf_C w mi p l R s m args meth c) (hd : decode (hf_cd mi) pc = .ok (.aaload, 1)) (hk : (hf_k g a).1 = 5) (hin : hf_in i (hf_k g a).2 = true) (hx1 : hf_r g a i.toNatClampNeg = some x)
    (k : hf_at w mi p l e R s m args below meth c c0 s0 Q (pc + 1) L (.ref x :: r) g I J) : hf_at w mi p l e R s m args below meth c c0 s0 Q pc L (.int i :: .ref a :: r) g I J := by
  obtain ⟨hx0, hb, hr, hml, hown, hts, hlk, htab, hnm, hfr, hlo, hKW, hst⟩ := hC
  intro H locs ls cells slots hH hS hL hc hs hx
  have kk := k H locs ls cells slots hH hS hL hc hs hx
  refine va_aldq hx0 hb hKW.1 hH.P (hf_ps g a) 3 (hf_wl_5 hH hk) rfl (hf_vp hin) hd ?_
  rw [hx1]
  exact kk
theorem hl_iast {a : Nat} {i x : Int32} (hC : hf_C w mi p l R s m args meth c) (hd : decode (hf_cd mi) pc = .ok (.iastore, 1)) (hk : (hf_k g a).1 = 2) (hin : hf_in i (hf_k g a).2 = true)
    (k : hf_at w mi p l e R s m args below meth c c0 s0 Q (pc + 1) L r g (hf_u I a i.toNatClampNeg x) J) : hf_at w mi p l e R s m args below meth c c0 s0 Q pc L (.int x :: .int i :: .ref a :: r) g I J := by
  obtain ⟨hx0, hb, hr, hml, hown, hts, hlk, htab, hnm, hfr, hlo, hKW, hst⟩ := hC
  intro H locs ls cells slots hH hS hL hc hs hx
  have ha5 : (hf_k g a).1 ≤ 5 := by rw [hk]; decide
  refine va_iast hx0 hb hKW.1 hH.P hf_wl_D (hf_self hS) (hf_ps g a) 0 (hf_wl_2 hH hk) rfl (hf_vp hin) hd (fun H1 locs1 hP1 _ hS1 => k H1 locs1 ls cells slots ?_ (hf_back hS hS1) hL hc hs hx)
  refine hH.putI ha5 hS1.1 ?_
  rw [hH.ad ha5, hf_wl_set (g1 := g) (I1 := hf_u I a i.toNatClampNeg x) (J1 := J) rfl rfl (hH.lt ha5) ha5 ?_ (fun j hj => hf_pv_I hj)] at hP1
  · exact hP1
  · rw [hf_pv2 hk]
    congr 4
    funext j
    simp [hf_u, upd]
theorem hl_last {a : Nat} {i : Int32} {x : Int64} (hC : hf_C w mi p l R s m args meth c) (hd : decode (hf_cd mi) pc = .ok (.lastore, 1)) (hk : (hf_k g a).1 = 3) (hin : hf_in i (hf_k g a).2 = true)
    (k : hf_at w mi p l e R s m args below meth c c0 s0 Q (pc + 1) L r g I (hf_u J a i.toNatClampNeg x)) : hf_at w mi p l e R s m args below meth c c0 s0 Q pc L (.long x :: .int i :: .ref a :: r) g I J := by
  obtain ⟨hx0, hb, hr, hml, hown, hts, hlk, htab, hnm, hfr, hlo, hKW, hst⟩ := hC
  intro H locs ls cells slots hH hS hL hc hs hx
  have ha5 : (hf_k g a).1 ≤ 5 := by rw [hk]; decide
  refine va_last hx0 hb hKW.1 hH.P hf_wl_D (hf_self hS) (hf_ps g a) 1 (hf_wl_3 hH hk) rfl (hf_vp hin) hd (fun H1 locs1 hP1 _ hS1 => k H1 locs1 ls cells slots ?_ (hf_back hS hS1) hL hc hs hx)
  refine hH.putJ hS1.1 ?_
  rw [hH.ad ha5, hf_wl_set (g1 := g) (I1 := I) (J1 := hf_u J a i.toNatClampNeg x) rfl rfl (hH.lt ha5) ha5 ?_ (fun j hj => hf_pv_J hj)] at hP1
  · exact hP1
  · rw [hf_pv3 hk]
    congr 5
    funext j
    simp [hf_u, vp_updL]
theorem hl_aast {a x : Nat} {i : Int32} (hC : hf_C w mi p l R s m args meth c) (hd : decode (hf_cd mi) pc = .ok (.aastore, 1)) (hk : (hf_k g a).1 = 5) (hin : hf_in i (hf_k g a).2 = true) (hkx : hf_k g x = (0, 3))
    (k : hf_at w mi p l e R s m args below meth c c0 s0 Q (pc + 1) L r (hf_sr g a i.toNatClampNeg (some x)) I J) : hf_at w mi p l e R s m args below meth c c0 s0 Q pc L (.ref x :: .int i :: .ref a :: r) g I J := by
  obtain ⟨hx0, hb, hr, hml, hown, hts, hlk, htab, hnm, hfr, hlo, hKW, hst⟩ := hC
  intro H locs ls cells slots hH hS hL hc hs hx
  have ha5 : (hf_k g a).1 ≤ 5 := by rw [hk]; decide
  refine va_astq (r := (hf_cn 3, hf_ct 3, hf_nf 3)) hx0 hb hKW.1 hH.P hf_wl_D (hf_self hS) (hf_ps g a) 3 (hf_ps g x) 3 (hf_wl_5 hH hk) rfl (hf_wl_obj hH hkx) rfl (hf_vp hin) hd (fun H1 locs1 hP1 _ hS1 => k H1 locs1 ls cells slots ?_ (hf_back hS hS1) hL hc hs hx)
  refine hH.putR hS1.1 ?_
  rw [hH.ad ha5, hf_wl_set (g := g) (g1 := hf_sr g a i.toNatClampNeg (some x)) (I1 := I) (J1 := J) rfl rfl (hH.lt ha5) ha5 ?_ (fun j hj => hf_pv_R hj)] at hP1
  · exact hP1
  · have hk1' : (hf_k (hf_sr g a i.toNatClampNeg (some x)) a).1 = 5 := hk
    have e9 : (fun j => (hf_r (hf_sr g a i.toNatClampNeg (some x)) a j).map (hf_ad w)) = va_up (fun j => (hf_r g a j).map (hf_ad w)) i.toNatClampNeg (some (hf_ad w x)) := by
      funext j
      by_cases hj : j = i.toNatClampNeg <;> simp [hf_u, hf_sr, hf_r, va_up, hj]
    rw [hf_pv5 hk1', e9]
    rfl
theorem hl_alen {a : Nat} (hC : hf_C w mi p l R s m args meth c) (hd : decode (hf_cd mi) pc = .ok (.arraylength, 1)) (hk : 2 ≤ (hf_k g a).1 ∧ (hf_k g a).1 ≤ 6)
    (k : hf_at w mi p l e R s m args below meth c c0 s0 Q (pc + 1) L (.int (Int32.ofNat (hf_k g a).2) :: r) g I J) : hf_at w mi p l e R s m args below meth c c0 s0 Q pc L (.ref a :: r) g I J := by
  obtain ⟨hx0, hb, hr, hml, hown, hts, hlk, htab, hnm, hfr, hlo, hKW, hst⟩ := hC
  intro H locs ls cells slots hH hS hL hc hs hx
  have kk := k H locs ls cells slots hH hS hL hc hs hx
  have hcases : (hf_k g a).1 = 2 ∨ (hf_k g a).1 = 3 ∨ (hf_k g a).1 = 4 ∨ (hf_k g a).1 = 5 ∨ (hf_k g a).1 = 6 := by omega
  rcases hcases with h | h | h | h | h
  · exact va_alen hx0 hb hKW.1 hH.P (hf_ps g a) 0 (hf_wl_2 hH h) rfl rfl hd kk
  · exact va_alen hx0 hb hKW.1 hH.P (hf_ps g a) 1 (hf_wl_3 hH h) rfl rfl hd kk
  · exact va_alen hx0 hb hKW.1 hH.P (hf_ps g a) 2 (hf_wl_4 hH h) rfl rfl hd kk
  · exact va_alen hx0 hb hKW.1 hH.P (hf_ps g a) 3 (hf_wl_5 hH h) rfl rfl hd kk
  · rcases hH.2.2.1 a h with rfl | rfl
    · obtain ⟨cell, h1, h2, h3, h4, h5, h6⟩ := hf_T_at hKW.2.2.2.1 hS.2.1
      rw [hH.2.2.2.1] at kk
      exact W.alen hx0 hb h1 h2 h5 (g := F0 m pc ls ((.ref 1000001 :: r).map (hf_tv w))) rfl rfl hd kk
    · obtain ⟨cell, h1, h2, h3, h4, h5, h6⟩ := hf_T_at hKW.2.2.1 hS.2.1
      rw [hH.2.2.2.2.1] at kk
      exact W.alen hx0 hb h1 h2 h5 (g := F0 m pc ls ((.ref 1000002 :: r).map (hf_tv w))) rfl rfl hd kk
theorem hl_ldc2 {ix : Nat} {v : Int64} (hC : hf_C w mi p l R s m args meth c) (hd : decode (hf_cd mi) pc = .ok (.ldc2_w ix, 3)) (hv : hf_ll (hf_oc mi) ix = some v)
    (k : hf_at w mi p l e R s m args below meth c c0 s0 Q (pc + 3) L (.long v :: st) g I J) : hf_at w mi p l e R s m args below meth c c0 s0 Q pc L st g I J := by
  obtain ⟨hx0, hb, hr, hml, hown, hts, hlk, htab, hnm, hfr, hlo, hKW, hst⟩ := hC
  obtain ⟨a, ha⟩ := hf_ll_ok hv
  exact fun H locs ls cells slots hH hS hL hc hs hx => lv_ldc2 hx0 hb hown (hts _ (hf_has_ts ha)) hd (k H locs ls cells slots hH hS hL hc hs hx)
theorem hl_ldc {ix : Nat} {v : Int32} (hC : hf_C w mi p l R s m args meth c) (hd : decode (hf_cd mi) pc = .ok (.ldc ix, 2)) (hv : hf_il (hf_oc mi) ix = some v)
    (k : hf_at w mi p l e R s m args below meth c c0 s0 Q (pc + 2) L (.int v :: st) g I J) : hf_at w mi p l e R s m args below meth c c0 s0 Q pc L st g I J := by
  obtain ⟨hx0, hb, hr, hml, hown, hts, hlk, htab, hnm, hfr, hlo, hKW, hst⟩ := hC
  obtain ⟨a, ha⟩ := hf_il_ok hv
  exact fun H locs ls cells slots hH hS hL hc hs hx => W.ldc hx0 hb hown (hts _ (hf_has_ts ha)) (g := F0 m pc ls (st.map (hf_tv w))) rfl hd (k H locs ls cells slots hH hS hL hc hs hx)
theorem hl_gets (hC : hf_C w mi p l R s m args meth c) (hd : decode (hf_cd mi) pc = .ok (.getstatic 94, 3)) (ho : hf_oc mi = 1)
    (k : hf_at w mi p l e R s m args below meth c c0 s0 Q (pc + 3) L (.ref 1000002 :: st) g I J) : hf_at w mi p l e R s m args below meth c c0 s0 Q pc L st g I J := by
  obtain ⟨hx0, hb, hr, hml, hown, hts, hlk, htab, hnm, hfr, hlo, hKW, hst⟩ := hC
  rw [ho] at hown
  exact fun H locs ls cells slots hH hS hL hc hs hx => va_gets hx0 hb hKW.2.1 hS hown (hts _ (hf_has_ts hf_wv1)) (fun _ h => h) hd (k H locs ls cells slots hH hS hL hc hs hx)
theorem hl_oinit {ix : Nat} {x : Nat} (hC : hf_C w mi p l R s m args meth c) (hd : decode (hf_cd mi) pc = .ok (.invokespecial ix, 3)) (hlink : .methodLink (hf_on (hf_oc mi)) ix Lib.objectInit ∈ hf_ts) (hcs : hf_cs r ≤ 8) (hfr1 : 1 ≤ hf_fr mi) (hlo1 : 20 ≤ hf_lo mi)
    (k : hf_at w mi p l e R s m args below meth c c0 s0 Q (pc + 3) L r g I J) : hf_at w mi p l e R s m args below meth c c0 s0 Q pc L (.ref x :: r) g I J := by
  obtain ⟨hx0, hb, hr, hml, hown, hts, hlk, htab, hnm, hfr, hlo, hKW, hst⟩ := hC
  intro H locs ls cells slots hH hS hL hc hs hx
  have hcs2 : ((r.map (hf_tv w)).map fun v => v.category).sum ≤ 8 := by
    rw [List.map_map, show ((fun v : Value => v.category) ∘ hf_tv w) = fun v => v.category from funext fun v => hf_tv_cat v]
    exact hcs
  refine W.objInit (g := F0 m pc ls ((.ref x :: r).map (hf_tv w))) hx0 hb hown (hts _ hlink) (hts _ (hf_has_ts hf_oi1)) (hts _ (hf_has_ts hf_oi2)) rfl ?_ rfl hd (Nat.le_trans hfr1 hfr) ?_ (k H locs ls cells slots hH hS hL hc hs hx)
  · rw [hml]
    exact hL.2.1
  · have h0 : (F0 m pc ls ((.ref x :: r).map (hf_tv w))).monitorRoom = 0 := rfl
    have := Nat.le_trans hlo1 hlo
    rw [h0]
    omega
end
