/-! WHAT IS MADE: its address is the next one -/
section
variable {w : hf_W} {mi : Nat} {p : Program} {l : Launch} {e : Env} {R : Room} {s : State} {m : MethodId} {args : Array Value} {below : List Frame} {meth : Method} {c : Code}
variable {c0 s0 : Nat} {Q : State → Prop} {pc pc1 : Nat} {L L1 : hf_Lo} {st st1 r : List Value} {g g1 : hf_G} {I I1 : hf_I} {J J1 : hf_J} {H H1 : Heap}
theorem hf_exact {T : State} {locs : List Loc} {cells slots : Nat} (hH : hf_HR w g I J H) (hZ : hf_Z w ≤ H.size) (hT : T.heap = H) (X : Stand p l e R s m args below meth c T locs cells slots) (hx : s.heap.size + cells ≤ hf_Z w + hf_n g) : H.size = hf_Z w + hf_n g := by
  have h1 := X.heapSize
  rw [hT] at h1
  have h2 := hH.size
  omega
theorem hf_KW.z {U : State} {H : Heap} (h : hf_KW w U H) : hf_Z w ≤ H.size := h.2.2.2.2.2.2.2.2.2.2.2
theorem hf_KW.ao {U : State} {H : Heap} (h : hf_KW w U H) : va_AO "Halofinder$Picture" U := h.2.2.2.2.2.2.2.2.2.2.1
/-- one cell more -/
theorem hf_grow {kd : Nat × Nat} {ns : Nat} {q : va_E} (hH : hf_HR w g I J H) (hn : hf_n g < 1000000) (hk : kd.1 ≤ 5) (hz : H.size = hf_Z w + hf_n g) (hq : hf_pv w (hf_mk g kd ns) (hf_w I (hf_n g) (fun _ => 0)) (hf_w J (hf_n g) (fun _ => 0)) (hf_n g) = q)
    (o1 : ∀ a : Nat, a < H.size → H1[a]? = H[a]?) (hat : va_at (hf_D w) vwCl (hf_Z w + hf_n g, q) H1) :
    hf_HR w (hf_mk g kd ns) (hf_w I (hf_n g) (fun _ => 0)) (hf_w J (hf_n g) (fun _ => 0)) H1 := by
  refine hH.new hn (by omega) (va_at.lt hat) ?_
  rw [← hf_wl_push (g := g) (g1 := hf_mk g kd ns) (I := I) (J := J) rfl (fun j hj => if_neg (Nat.ne_of_lt hj)) (by rw [show hf_k (hf_mk g kd ns) (hf_n g) = kd from if_pos rfl]; exact hk) hq (fun j hj => hf_pv_mk hj)]
  refine (hH.P.kept fun k x hx => o1 _ (va_at.lt (hH.P k x hx))).app (fun k x hx => ?_)
  have hz : k < 1 := (List.getElem?_eq_some_iff.mp hx).1
  rw [show k = 0 by omega] at hx
  cases hx
  exact hat
theorem hf_S_grow {s : State} {locs : List Loc} (hS : va_S (hf_A w) s.heap H locs) (z1 : H1.size = H.size + 1) (o1 : ∀ a : Nat, a < H.size → H1[a]? = H[a]?) : va_S (hf_A w) s.heap H1 locs :=
  ⟨Nat.le_trans hS.1 (by omega), fun x h1 h2 => (o1 x (Nat.lt_of_lt_of_le h1 hS.1)).trans (hS.2.1 x h1 h2), hS.2.2⟩
theorem hl_new {ix ci : Nat} (hC : hf_C w mi p l R s m args meth c) (hd : decode (hf_cd mi) pc = .ok (.new ix, 3)) (hcl : hf_cl (hf_oc mi) ix = some ci) (hci : ci < 100) (he : hf_e g = true) (hn : hf_n g < 1000000)
    (hbc : hf_c g + 1 ≤ R.cells + c0) (hbs : hf_s g + hf_nf ci ≤ R.slots + s0)
    (k : hf_at w mi p l e R s m args below meth c c0 s0 Q (pc + 3) L (.ref (hf_n g) :: st) (hf_mk g (0, ci) (hf_nf ci)) (hf_w I (hf_n g) (fun _ => 0)) (hf_w J (hf_n g) (fun _ => 0))) : hf_at w mi p l e R s m args below meth c c0 s0 Q pc L st g I J := by
  obtain ⟨hx0, hb, hr, hml, hown, hts, hlk, htab, hnm, hfr, hlo, hKW, hst⟩ := hC
  obtain ⟨a1, a2, hok⟩ := hf_cl_ok hcl
  rw [hf_clok, if_pos hci] at hok
  simp only [Bool.and_eq_true, decide_eq_true_eq] at hok
  obtain ⟨⟨hc11, hlink⟩, hinst⟩ := hok
  obtain ⟨f1, f2, f3, f4⟩ := hf_cok_of hc11
  intro H locs ls cells slots hH hS hL hc hs hx T hT X
  have hz := hf_exact hH (Nat.le_trans hKW.z hS.1) hT X (hx he)
  have hKn := hKW.1.1 ci _ (hf_cl_get hc11)
  refine (W.newcK hx0 hb hown (hts _ (hf_has_ts hlink)) (hts _ (hf_has_ts hinst)) (hts _ f4) (g := F0 m pc ls (st.map (hf_tv w))) rfl hd (by omega) (by omega) hKn.2.1 rfl fun H1 kC hkC e1 z1 o1 => ?_) T hT X
  have hpv : hf_pv w (hf_mk g (0, ci) (hf_nf ci)) (hf_w I (hf_n g) (fun _ => 0)) (hf_w J (hf_n g) (fun _ => 0)) (hf_n g) = .inr (ci, (List.range (hf_nf ci)).map (hf_fv w (hf_mk g (0, ci) (hf_nf ci)) (hf_w I (hf_n g) (fun _ => 0)) (hf_w J (hf_n g) (fun _ => 0)) ci (hf_n g))) :=
    hf_pv0 (if_pos rfl)
  have hHR := hf_grow hH hn (kd := (0, ci)) (ns := hf_nf ci) (by show 0 ≤ 5; decide) hz hpv o1 ⟨_, hf_cl_get hc11, by
    rw [← hz]
    refine (u_born (hf_tyk ci) hts f3 hKn hkC e1 (fun k hk => (hf_fok_of (f1 k hk)).2.1)).to (fun k hk => ?_)
    have hv : vp_V ((List.range (hf_nf ci)).map (hf_fv w (hf_mk g (0, ci) (hf_nf ci)) (hf_w I (hf_n g) (fun _ => 0)) (hf_w J (hf_n g) (fun _ => 0)) ci (hf_n g))) k = hf_fv w (hf_mk g (0, ci) (hf_nf ci)) (hf_w I (hf_n g) (fun _ => 0)) (hf_w J (hf_n g) (fun _ => 0)) ci (hf_n g) k := by
      have hk : k < hf_nf ci := hk
      simp [vp_V, List.getD, hk]
    dsimp only
    rw [hv]
    have hrn : hf_r (hf_mk g (0, ci) (hf_nf ci)) (hf_n g) k = none := by simp [hf_mk, hf_r, hf_w]
    rcases (hf_fok_of (f1 k hk)).2.2 with ⟨z1, z2, -⟩ | ⟨z1, z2⟩ | ⟨z1, z2⟩ | ⟨z1, ⟨n, z2⟩ | ⟨n, z2⟩⟩ <;> rw [z2, hf_fv, z1] <;> simp [hf_w, hrn, va_rf, defaultValue]⟩
  have ek : Value.ref H.size = hf_tv w (.ref (hf_n g)) := by
    show Value.ref H.size = Value.ref (hf_ad w (hf_n g))
    rw [hf_ad_lt (by omega), hz]
  have kk := k H1 locs ls (cells + 1) (slots + hf_nf ci) hHR (hf_S_grow hS z1 o1) hL (by show cells + 1 + c0 = hf_c g + 1; omega) (by show slots + hf_nf ci + s0 = hf_s g + hf_nf ci; omega) (fun _ => by have := hx he; show s.heap.size + (cells + 1) ≤ hf_Z w + (hf_n g + 1); omega)
  rw [List.map_cons, ← ek] at kk
  exact kk
theorem hl_newa {t : ArrayType} {i : Int32} (hC : hf_C w mi p l R s m args meth c) (hd : decode (hf_cd mi) pc = .ok (.newarray t, 2)) (ht : hf_at0 t ≤ 5) (hi : ¬ i < 0) (hi2 : i.toNatClampNeg ≤ 100000) (he : hf_e g = true) (hn : hf_n g < 1000000)
    (hbc : hf_c g + 1 ≤ R.cells + c0) (hbs : hf_s g + i.toNatClampNeg ≤ R.slots + s0)
    (k : hf_at w mi p l e R s m args below meth c c0 s0 Q (pc + 2) L (.ref (hf_n g) :: r) (hf_mk g (hf_at0 t, i.toNatClampNeg) i.toNatClampNeg) (hf_w I (hf_n g) (fun _ => 0)) (hf_w J (hf_n g) (fun _ => 0))) : hf_at w mi p l e R s m args below meth c c0 s0 Q pc L (.int i :: r) g I J := by
  obtain ⟨hx0, hb, hr, hml, hown, hts, hlk, htab, hnm, hfr, hlo, hKW, hst⟩ := hC
  intro H locs ls cells slots hH hS hL hc hs hx T hT X
  have hz := hf_exact hH (Nat.le_trans hKW.z hS.1) hT X (hx he)
  have ek : Value.ref (hf_Z w + hf_n g) = hf_tv w (.ref (hf_n g)) := by
    show Value.ref (hf_Z w + hf_n g) = Value.ref (hf_ad w (hf_n g))
    rw [hf_ad_lt (by omega)]
  have fin : ∀ (H1 : Heap) (q : va_E), hf_pv w (hf_mk g (hf_at0 t, i.toNatClampNeg) i.toNatClampNeg) (hf_w I (hf_n g) (fun _ => 0)) (hf_w J (hf_n g) (fun _ => 0)) (hf_n g) = q → va_at (hf_D w) vwCl (hf_Z w + hf_n g, q) H1 → H1.size = hf_Z w + hf_n g + 1 → (∀ a : Nat, a < hf_Z w + hf_n g → H1[a]? = H[a]?) →
      W p l e R s m args below meth c H1 locs (cells + 1) (slots + i.toNatClampNeg) Q (F0 m (pc + 2) ls (.ref (hf_Z w + hf_n g) :: r.map (hf_tv w))) := by
    intro H1 q hq hat z1 o1
    have o2 : ∀ a : Nat, a < H.size → H1[a]? = H[a]? := fun a ha => o1 a (by omega)
    have kk := k H1 locs ls (cells + 1) (slots + i.toNatClampNeg) (hf_grow hH hn (by show hf_at0 t ≤ 5; exact ht) hz hq o2 hat) (hf_S_grow hS (by omega) o2) hL (by show cells + 1 + c0 = hf_c g + 1; omega) (by show slots + i.toNatClampNeg + s0 = hf_s g + i.toNatClampNeg; omega) (fun _ => by have := hx he; show s.heap.size + (cells + 1) ≤ hf_Z w + (hf_n g + 1); omega)
    rw [List.map_cons, ← ek] at kk
    exact kk
  cases t with
  | int =>
    refine (va_newaK hx0 hb (hts _ (hf_has_ts hf_ar2)) (g := F0 m pc ls ((.int i :: r).map (hf_tv w))) rfl hd rfl hi rfl (by show _ * 4 ≤ _; omega) (by omega) (by omega) hz fun H1 cA e1 z1 o1 hA hfc => ?_) T hT X
    refine fin H1 _ (hf_pv2 (show (hf_k (hf_mk g (2, i.toNatClampNeg) i.toNatClampNeg) (hf_n g)).1 = 2 by simp [hf_mk, hf_k])) ?_ z1 o1
    have hcA : cA = hf_cA w 2 := Option.some.inj (hfc.symm.trans (hKW.1.2 0 _ rfl).2)
    show H1[hf_Z w + hf_n g]? = some _
    rw [e1, hcA, hf_w_eq]
    simp [hf_mk, hf_k]
    rfl
  | long =>
    refine (va_newaK hx0 hb (hts _ (hf_has_ts hf_ar3)) (g := F0 m pc ls ((.int i :: r).map (hf_tv w))) rfl hd rfl hi rfl (by show _ * 8 ≤ _; omega) (by omega) (by omega) hz fun H1 cA e1 z1 o1 hA hfc => ?_) T hT X
    refine fin H1 _ (hf_pv3 (show (hf_k (hf_mk g (3, i.toNatClampNeg) i.toNatClampNeg) (hf_n g)).1 = 3 by simp [hf_mk, hf_k])) ?_ z1 o1
    have hcA : cA = hf_cA w 3 := Option.some.inj (hfc.symm.trans (hKW.1.2 1 _ rfl).2)
    show H1[hf_Z w + hf_n g]? = some _
    rw [e1, hcA, hf_w_eq]
    simp [hf_mk, hf_k]
    rfl
  | _ => exact absurd ht (by decide)
theorem hl_anew {ix : Nat} {i : Int32} (hC : hf_C w mi p l R s m args meth c) (hd : decode (hf_cd mi) pc = .ok (.anewarray ix, 3)) (hcl : hf_cl (hf_oc mi) ix = some 3) (hi : ¬ i < 0) (hi2 : i.toNatClampNeg ≤ 100000) (he : hf_e g = true) (hn : hf_n g < 1000000)
    (hbc : hf_c g + 1 ≤ R.cells + c0) (hbs : hf_s g + i.toNatClampNeg ≤ R.slots + s0)
    (k : hf_at w mi p l e R s m args below meth c c0 s0 Q (pc + 3) L (.ref (hf_n g) :: r) (hf_mk g (5, i.toNatClampNeg) i.toNatClampNeg) (hf_w I (hf_n g) (fun _ => 0)) (hf_w J (hf_n g) (fun _ => 0))) : hf_at w mi p l e R s m args below meth c c0 s0 Q pc L (.int i :: r) g I J := by
  obtain ⟨hx0, hb, hr, hml, hown, hts, hlk, htab, hnm, hfr, hlo, hKW, hst⟩ := hC
  obtain ⟨a1, a2, hok⟩ := hf_cl_ok hcl
  rw [hf_clok, if_pos (by decide)] at hok
  simp only [Bool.and_eq_true, decide_eq_true_eq] at hok
  obtain ⟨⟨hc11, hlink⟩, hinst⟩ := hok
  intro H locs ls cells slots hH hS hL hc hs hx T hT X
  have hz := hf_exact hH (Nat.le_trans hKW.z hS.1) hT X (hx he)
  have ek : Value.ref H.size = hf_tv w (.ref (hf_n g)) := by
    show Value.ref H.size = Value.ref (hf_ad w (hf_n g))
    rw [hf_ad_lt (by omega), hz]
  refine (W.anew (C := "Halofinder$Picture") hx0 hb hown (hts _ (hf_has_ts hlink)) (va_AO.use hKW.ao) (g := F0 m pc ls ((.int i :: r).map (hf_tv w))) rfl hd rfl hi (by omega) (by omega) (by omega) fun cA kA comp f1 f2 f3 f4 => ?_) T hT X
  obtain ⟨kA2, comp2, r1, r2, r3, r4⟩ := (hKW.1.2 3 _ rfl).2
  have hcA : cA = hf_cA w 5 := Option.some.inj (f1.symm.trans r4)
  generalize hH1 : H.push ({ cls := cA, slots := Array.replicate i.toNatClampNeg .null, vm := .none } : Cell) = H1
  have z1 : H1.size = H.size + 1 := by rw [← hH1, Array.size_push]
  have e1 : H1[H.size]? = some (arrV cA i.toNatClampNeg (fun _ => .null)) := by rw [← hH1, Array.getElem?_push_size, ← arrV_new]
  have o1 : ∀ q : Nat, q < H.size → H1[q]? = H[q]? := fun q hq => by rw [← hH1, Array.getElem?_push, if_neg (Nat.ne_of_lt hq)]
  have hHR := hf_grow hH hn (kd := (5, i.toNatClampNeg)) (ns := i.toNatClampNeg) (by show 5 ≤ 5; decide) hz (hf_pv5 (show (hf_k (hf_mk g (5, i.toNatClampNeg) i.toNatClampNeg) (hf_n g)).1 = 5 by simp [hf_mk, hf_k])) o1 (by
    show H1[hf_Z w + hf_n g]? = some _
    rw [← hz, e1, hcA]
    simp [hf_mk, hf_k, hf_r, hf_w]
    rfl)
  have kk := k H1 locs ls (cells + 1) (slots + i.toNatClampNeg) hHR (hf_S_grow hS z1 o1) hL (by show cells + 1 + c0 = hf_c g + 1; omega) (by show slots + i.toNatClampNeg + s0 = hf_s g + i.toNatClampNeg; omega) (fun _ => by have := hx he; show s.heap.size + (cells + 1) ≤ hf_Z w + (hf_n g + 1); omega)
  rw [List.map_cons, ← ek] at kk
  exact kk
end
